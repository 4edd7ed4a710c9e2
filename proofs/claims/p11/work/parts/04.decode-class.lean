theorem dX0_init_0 : decode cX0_init 0 = .ok (.aload_n 0, 1) := by decide +kernel
theorem dX0_init_1 : decode cX0_init 1 = .ok (.invokespecial 1, 3) := by decide +kernel
theorem dX0_init_4 : decode cX0_init 4 = .ok (.return_, 1) := by decide +kernel
theorem dX0_startText_0 : decode cX0_startText 0 = .ok (.aload_n 0, 1) := by decide +kernel
theorem dX0_startText_1 : decode cX0_startText 1 = .ok (.iconst 0, 1) := by decide +kernel
theorem dX0_startText_2 : decode cX0_startText 2 = .ok (.putfield 7, 3) := by decide +kernel
theorem dX0_startText_5 : decode cX0_startText 5 = .ok (.aload_n 0, 1) := by decide +kernel
theorem dX0_startText_6 : decode cX0_startText 6 = .ok (.iconst 0, 1) := by decide +kernel
theorem dX0_startText_7 : decode cX0_startText 7 = .ok (.putfield 13, 3) := by decide +kernel
theorem dX0_startText_10 : decode cX0_startText 10 = .ok (.aload_n 0, 1) := by decide +kernel
theorem dX0_startText_11 : decode cX0_startText 11 = .ok (.iconst 0, 1) := by decide +kernel
theorem dX0_startText_12 : decode cX0_startText 12 = .ok (.putfield 16, 3) := by decide +kernel
theorem dX0_startText_15 : decode cX0_startText 15 = .ok (.aload_n 0, 1) := by decide +kernel
theorem dX0_startText_16 : decode cX0_startText 16 = .ok (.iconst 0, 1) := by decide +kernel
theorem dX0_startText_17 : decode cX0_startText 17 = .ok (.putfield 19, 3) := by decide +kernel
theorem dX0_startText_20 : decode cX0_startText 20 = .ok (.aload_n 0, 1) := by decide +kernel
theorem dX0_startText_21 : decode cX0_startText 21 = .ok (.iconst 0, 1) := by decide +kernel
theorem dX0_startText_22 : decode cX0_startText 22 = .ok (.putfield 22, 3) := by decide +kernel
theorem dX0_startText_25 : decode cX0_startText 25 = .ok (.return_, 1) := by decide +kernel
theorem dX0_startLine_0 : decode cX0_startLine 0 = .ok (.aload_n 0, 1) := by decide +kernel
theorem dX0_startLine_1 : decode cX0_startLine 1 = .ok (.iconst 0, 1) := by decide +kernel
theorem dX0_startLine_2 : decode cX0_startLine 2 = .ok (.putfield 7, 3) := by decide +kernel
theorem dX0_startLine_5 : decode cX0_startLine 5 = .ok (.return_, 1) := by decide +kernel
theorem dX0_pass_0 : decode cX0_pass 0 = .ok (.aload_n 0, 1) := by decide +kernel
theorem dX0_pass_1 : decode cX0_pass 1 = .ok (.aload_n 1, 1) := by decide +kernel
theorem dX0_pass_2 : decode cX0_pass 2 = .ok (.getfield 25, 3) := by decide +kernel
theorem dX0_pass_5 : decode cX0_pass 5 = .ok (.putfield 7, 3) := by decide +kernel
theorem dX0_pass_8 : decode cX0_pass 8 = .ok (.aload_n 1, 1) := by decide +kernel
theorem dX0_pass_9 : decode cX0_pass 9 = .ok (.invokevirtual 28, 3) := by decide +kernel
theorem dX0_pass_12 : decode cX0_pass 12 = .ok (.ifCond .eq 27, 3) := by decide +kernel
theorem dX0_pass_15 : decode cX0_pass 15 = .ok (.aload_n 0, 1) := by decide +kernel
theorem dX0_pass_16 : decode cX0_pass 16 = .ok (.aload_n 1, 1) := by decide +kernel
theorem dX0_pass_17 : decode cX0_pass 17 = .ok (.getfield 32, 3) := by decide +kernel
theorem dX0_pass_20 : decode cX0_pass 20 = .ok (.putfield 13, 3) := by decide +kernel
theorem dX0_pass_23 : decode cX0_pass 23 = .ok (.aload_n 0, 1) := by decide +kernel
theorem dX0_pass_24 : decode cX0_pass 24 = .ok (.aload_n 1, 1) := by decide +kernel
theorem dX0_pass_25 : decode cX0_pass 25 = .ok (.getfield 33, 3) := by decide +kernel
theorem dX0_pass_28 : decode cX0_pass 28 = .ok (.putfield 16, 3) := by decide +kernel
theorem dX0_pass_31 : decode cX0_pass 31 = .ok (.aload_n 0, 1) := by decide +kernel
theorem dX0_pass_32 : decode cX0_pass 32 = .ok (.aload_n 1, 1) := by decide +kernel
theorem dX0_pass_33 : decode cX0_pass 33 = .ok (.getfield 34, 3) := by decide +kernel
theorem dX0_pass_36 : decode cX0_pass 36 = .ok (.putfield 19, 3) := by decide +kernel
theorem dX0_pass_39 : decode cX0_pass 39 = .ok (.aload_n 1, 1) := by decide +kernel
theorem dX0_pass_40 : decode cX0_pass 40 = .ok (.invokevirtual 35, 3) := by decide +kernel
theorem dX0_pass_43 : decode cX0_pass 43 = .ok (.ifCond .eq 11, 3) := by decide +kernel
theorem dX0_pass_46 : decode cX0_pass 46 = .ok (.aload_n 0, 1) := by decide +kernel
theorem dX0_pass_47 : decode cX0_pass 47 = .ok (.aload_n 1, 1) := by decide +kernel
theorem dX0_pass_48 : decode cX0_pass 48 = .ok (.getfield 38, 3) := by decide +kernel
theorem dX0_pass_51 : decode cX0_pass 51 = .ok (.putfield 22, 3) := by decide +kernel
theorem dX0_pass_54 : decode cX0_pass 54 = .ok (.return_, 1) := by decide +kernel
theorem dX1_init_0 : decode cX1_init 0 = .ok (.aload_n 0, 1) := by decide +kernel
theorem dX1_init_1 : decode cX1_init 1 = .ok (.invokespecial 3, 3) := by decide +kernel
theorem dX1_init_4 : decode cX1_init 4 = .ok (.return_, 1) := by decide +kernel
theorem dX1_forget_0 : decode cX1_forget 0 = .ok (.aload_n 0, 1) := by decide +kernel
theorem dX1_forget_1 : decode cX1_forget 1 = .ok (.iconst 0, 1) := by decide +kernel
theorem dX1_forget_2 : decode cX1_forget 2 = .ok (.putfield 9, 3) := by decide +kernel
theorem dX1_forget_5 : decode cX1_forget 5 = .ok (.return_, 1) := by decide +kernel
theorem dX1_take_0 : decode cX1_take 0 = .ok (.aload_n 0, 1) := by decide +kernel
theorem dX1_take_1 : decode cX1_take 1 = .ok (.getfield 9, 3) := by decide +kernel
theorem dX1_take_4 : decode cX1_take 4 = .ok (.ifCond .ne 23, 3) := by decide +kernel
theorem dX1_take_7 : decode cX1_take 7 = .ok (.aload_n 0, 1) := by decide +kernel
theorem dX1_take_8 : decode cX1_take 8 = .ok (.iload_n 2, 1) := by decide +kernel
theorem dX1_take_9 : decode cX1_take 9 = .ok (.putfield 15, 3) := by decide +kernel
theorem dX1_take_12 : decode cX1_take 12 = .ok (.aload_n 0, 1) := by decide +kernel
theorem dX1_take_13 : decode cX1_take 13 = .ok (.lconst 0, 1) := by decide +kernel
theorem dX1_take_14 : decode cX1_take 14 = .ok (.putfield 19, 3) := by decide +kernel
theorem dX1_take_17 : decode cX1_take 17 = .ok (.aload_n 0, 1) := by decide +kernel
theorem dX1_take_18 : decode cX1_take 18 = .ok (.iconst 0, 1) := by decide +kernel
theorem dX1_take_19 : decode cX1_take 19 = .ok (.putfield 23, 3) := by decide +kernel
theorem dX1_take_22 : decode cX1_take 22 = .ok (.aload_n 0, 1) := by decide +kernel
theorem dX1_take_23 : decode cX1_take 23 = .ok (.iconst 0, 1) := by decide +kernel
theorem dX1_take_24 : decode cX1_take 24 = .ok (.putfield 26, 3) := by decide +kernel
theorem dX1_take_27 : decode cX1_take 27 = .ok (.iload_n 1, 1) := by decide +kernel
theorem dX1_take_28 : decode cX1_take 28 = .ok (.bipush 31, 2) := by decide +kernel
theorem dX1_take_30 : decode cX1_take 30 = .ok (.iand, 1) := by decide +kernel
theorem dX1_take_31 : decode cX1_take 31 = .ok (.istore_n 3, 1) := by decide +kernel
theorem dX1_take_32 : decode cX1_take 32 = .ok (.aload_n 0, 1) := by decide +kernel
theorem dX1_take_33 : decode cX1_take 33 = .ok (.getfield 23, 3) := by decide +kernel
theorem dX1_take_36 : decode cX1_take 36 = .ok (.bipush 30, 2) := by decide +kernel
theorem dX1_take_38 : decode cX1_take 38 = .ok (.if_icmp .gt 32, 3) := by decide +kernel
theorem dX1_take_41 : decode cX1_take 41 = .ok (.aload_n 0, 1) := by decide +kernel
theorem dX1_take_42 : decode cX1_take 42 = .ok (.dup, 1) := by decide +kernel
theorem dX1_take_43 : decode cX1_take 43 = .ok (.getfield 19, 3) := by decide +kernel
theorem dX1_take_46 : decode cX1_take 46 = .ok (.iload_n 3, 1) := by decide +kernel
theorem dX1_take_47 : decode cX1_take 47 = .ok (.i2l, 1) := by decide +kernel
theorem dX1_take_48 : decode cX1_take 48 = .ok (.aload_n 0, 1) := by decide +kernel
theorem dX1_take_49 : decode cX1_take 49 = .ok (.getfield 23, 3) := by decide +kernel
theorem dX1_take_52 : decode cX1_take 52 = .ok (.lshl, 1) := by decide +kernel
theorem dX1_take_53 : decode cX1_take 53 = .ok (.lor, 1) := by decide +kernel
theorem dX1_take_54 : decode cX1_take 54 = .ok (.putfield 19, 3) := by decide +kernel
theorem dX1_take_57 : decode cX1_take 57 = .ok (.aload_n 0, 1) := by decide +kernel
theorem dX1_take_58 : decode cX1_take 58 = .ok (.dup, 1) := by decide +kernel
theorem dX1_take_59 : decode cX1_take 59 = .ok (.getfield 23, 3) := by decide +kernel
theorem dX1_take_62 : decode cX1_take 62 = .ok (.iconst 5, 1) := by decide +kernel
theorem dX1_take_63 : decode cX1_take 63 = .ok (.iadd, 1) := by decide +kernel
theorem dX1_take_64 : decode cX1_take 64 = .ok (.putfield 23, 3) := by decide +kernel
theorem dX1_take_67 : decode cX1_take 67 = .ok (.goto 12, 3) := by decide +kernel
theorem dX1_take_70 : decode cX1_take 70 = .ok (.iload_n 3, 1) := by decide +kernel
theorem dX1_take_71 : decode cX1_take 71 = .ok (.ifCond .eq 8, 3) := by decide +kernel
theorem dX1_take_74 : decode cX1_take 74 = .ok (.aload_n 0, 1) := by decide +kernel
theorem dX1_take_75 : decode cX1_take 75 = .ok (.iconst 1, 1) := by decide +kernel
theorem dX1_take_76 : decode cX1_take 76 = .ok (.putfield 26, 3) := by decide +kernel
theorem dX1_take_79 : decode cX1_take 79 = .ok (.aload_n 0, 1) := by decide +kernel
theorem dX1_take_80 : decode cX1_take 80 = .ok (.iload_n 1, 1) := by decide +kernel
theorem dX1_take_81 : decode cX1_take 81 = .ok (.bipush 32, 2) := by decide +kernel
theorem dX1_take_83 : decode cX1_take 83 = .ok (.if_icmp .lt 7, 3) := by decide +kernel
theorem dX1_take_86 : decode cX1_take 86 = .ok (.iconst 1, 1) := by decide +kernel
theorem dX1_take_87 : decode cX1_take 87 = .ok (.goto 4, 3) := by decide +kernel
theorem dX1_take_90 : decode cX1_take 90 = .ok (.iconst 0, 1) := by decide +kernel
theorem dX1_take_91 : decode cX1_take 91 = .ok (.putfield 9, 3) := by decide +kernel
theorem dX1_take_94 : decode cX1_take 94 = .ok (.return_, 1) := by decide +kernel
theorem dX1_isTooLarge_0 : decode cX1_isTooLarge 0 = .ok (.aload_n 0, 1) := by decide +kernel
theorem dX1_isTooLarge_1 : decode cX1_isTooLarge 1 = .ok (.getfield 26, 3) := by decide +kernel
theorem dX1_isTooLarge_4 : decode cX1_isTooLarge 4 = .ok (.ifCond .ne 16, 3) := by decide +kernel
theorem dX1_isTooLarge_7 : decode cX1_isTooLarge 7 = .ok (.aload_n 0, 1) := by decide +kernel
theorem dX1_isTooLarge_8 : decode cX1_isTooLarge 8 = .ok (.getfield 19, 3) := by decide +kernel
theorem dX1_isTooLarge_11 : decode cX1_isTooLarge 11 = .ok (.iconst 1, 1) := by decide +kernel
theorem dX1_isTooLarge_12 : decode cX1_isTooLarge 12 = .ok (.lshr, 1) := by decide +kernel
theorem dX1_isTooLarge_13 : decode cX1_isTooLarge 13 = .ok (.ldc2_w 29, 3) := by decide +kernel
theorem dX1_isTooLarge_16 : decode cX1_isTooLarge 16 = .ok (.lcmp, 1) := by decide +kernel
theorem dX1_isTooLarge_17 : decode cX1_isTooLarge 17 = .ok (.ifCond .le 7, 3) := by decide +kernel
theorem dX1_isTooLarge_20 : decode cX1_isTooLarge 20 = .ok (.iconst 1, 1) := by decide +kernel
theorem dX1_isTooLarge_21 : decode cX1_isTooLarge 21 = .ok (.goto 4, 3) := by decide +kernel
theorem dX1_isTooLarge_24 : decode cX1_isTooLarge 24 = .ok (.iconst 0, 1) := by decide +kernel
theorem dX1_isTooLarge_25 : decode cX1_isTooLarge 25 = .ok (.ireturn, 1) := by decide +kernel
theorem dX1_value_0 : decode cX1_value 0 = .ok (.aload_n 0, 1) := by decide +kernel
theorem dX1_value_1 : decode cX1_value 1 = .ok (.getfield 19, 3) := by decide +kernel
theorem dX1_value_4 : decode cX1_value 4 = .ok (.iconst 1, 1) := by decide +kernel
theorem dX1_value_5 : decode cX1_value 5 = .ok (.lshr, 1) := by decide +kernel
theorem dX1_value_6 : decode cX1_value 6 = .ok (.lstore_n 1, 1) := by decide +kernel
theorem dX1_value_7 : decode cX1_value 7 = .ok (.aload_n 0, 1) := by decide +kernel
theorem dX1_value_8 : decode cX1_value 8 = .ok (.getfield 19, 3) := by decide +kernel
theorem dX1_value_11 : decode cX1_value 11 = .ok (.lconst 1, 1) := by decide +kernel
theorem dX1_value_12 : decode cX1_value 12 = .ok (.land, 1) := by decide +kernel
theorem dX1_value_13 : decode cX1_value 13 = .ok (.lconst 0, 1) := by decide +kernel
theorem dX1_value_14 : decode cX1_value 14 = .ok (.lcmp, 1) := by decide +kernel
theorem dX1_value_15 : decode cX1_value 15 = .ok (.ifCond .ne 7, 3) := by decide +kernel
theorem dX1_value_18 : decode cX1_value 18 = .ok (.lload_n 1, 1) := by decide +kernel
theorem dX1_value_19 : decode cX1_value 19 = .ok (.goto 5, 3) := by decide +kernel
theorem dX1_value_22 : decode cX1_value 22 = .ok (.lload_n 1, 1) := by decide +kernel
theorem dX1_value_23 : decode cX1_value 23 = .ok (.lneg, 1) := by decide +kernel
theorem dX1_value_24 : decode cX1_value 24 = .ok (.lreturn, 1) := by decide +kernel
theorem dX2_init_0 : decode cX2_init 0 = .ok (.aload_n 0, 1) := by decide +kernel
theorem dX2_init_1 : decode cX2_init 1 = .ok (.invokespecial 3, 3) := by decide +kernel
theorem dX2_init_4 : decode cX2_init 4 = .ok (.aload_n 0, 1) := by decide +kernel
theorem dX2_init_5 : decode cX2_init 5 = .ok (.new 9, 3) := by decide +kernel
theorem dX2_init_8 : decode cX2_init 8 = .ok (.dup, 1) := by decide +kernel
theorem dX2_init_9 : decode cX2_init 9 = .ok (.invokespecial 11, 3) := by decide +kernel
theorem dX2_init_12 : decode cX2_init 12 = .ok (.putfield 12, 3) := by decide +kernel
theorem dX2_init_15 : decode cX2_init 15 = .ok (.aload_n 0, 1) := by decide +kernel
theorem dX2_init_16 : decode cX2_init 16 = .ok (.iconst 5, 1) := by decide +kernel
theorem dX2_init_17 : decode cX2_init 17 = .ok (.newarray .long, 2) := by decide +kernel
theorem dX2_init_19 : decode cX2_init 19 = .ok (.putfield 18, 3) := by decide +kernel
theorem dX2_init_22 : decode cX2_init 22 = .ok (.aload_n 0, 1) := by decide +kernel
theorem dX2_init_23 : decode cX2_init 23 = .ok (.new 22, 3) := by decide +kernel
theorem dX2_init_26 : decode cX2_init 26 = .ok (.dup, 1) := by decide +kernel
theorem dX2_init_27 : decode cX2_init 27 = .ok (.invokespecial 24, 3) := by decide +kernel
theorem dX2_init_30 : decode cX2_init 30 = .ok (.putfield 25, 3) := by decide +kernel
theorem dX2_init_33 : decode cX2_init 33 = .ok (.aload_n 0, 1) := by decide +kernel
theorem dX2_init_34 : decode cX2_init 34 = .ok (.new 29, 3) := by decide +kernel
theorem dX2_init_37 : decode cX2_init 37 = .ok (.dup, 1) := by decide +kernel
theorem dX2_init_38 : decode cX2_init 38 = .ok (.invokespecial 31, 3) := by decide +kernel
theorem dX2_init_41 : decode cX2_init 41 = .ok (.putfield 32, 3) := by decide +kernel
theorem dX2_init_44 : decode cX2_init 44 = .ok (.aload_n 0, 1) := by decide +kernel
theorem dX2_init_45 : decode cX2_init 45 = .ok (.new 36, 3) := by decide +kernel
theorem dX2_init_48 : decode cX2_init 48 = .ok (.dup, 1) := by decide +kernel
theorem dX2_init_49 : decode cX2_init 49 = .ok (.invokespecial 38, 3) := by decide +kernel
theorem dX2_init_52 : decode cX2_init 52 = .ok (.putfield 39, 3) := by decide +kernel
theorem dX2_init_55 : decode cX2_init 55 = .ok (.return_, 1) := by decide +kernel
theorem dX2_readTape_0 : decode cX2_readTape 0 = .ok (.aload_n 0, 1) := by decide +kernel
theorem dX2_readTape_1 : decode cX2_readTape 1 = .ok (.invokevirtual 43, 3) := by decide +kernel
theorem dX2_readTape_4 : decode cX2_readTape 4 = .ok (.iconst 0, 1) := by decide +kernel
theorem dX2_readTape_5 : decode cX2_readTape 5 = .ok (.istore_n 2, 1) := by decide +kernel
theorem dX2_readTape_6 : decode cX2_readTape 6 = .ok (.iload_n 2, 1) := by decide +kernel
theorem dX2_readTape_7 : decode cX2_readTape 7 = .ok (.aload_n 1, 1) := by decide +kernel
theorem dX2_readTape_8 : decode cX2_readTape 8 = .ok (.getfield 46, 3) := by decide +kernel
theorem dX2_readTape_11 : decode cX2_readTape 11 = .ok (.if_icmp .ge 26, 3) := by decide +kernel
theorem dX2_readTape_14 : decode cX2_readTape 14 = .ok (.aload_n 0, 1) := by decide +kernel
theorem dX2_readTape_15 : decode cX2_readTape 15 = .ok (.getfield 52, 3) := by decide +kernel
theorem dX2_readTape_18 : decode cX2_readTape 18 = .ok (.ifCond .ne 19, 3) := by decide +kernel
theorem dX2_readTape_21 : decode cX2_readTape 21 = .ok (.aload_n 0, 1) := by decide +kernel
theorem dX2_readTape_22 : decode cX2_readTape 22 = .ok (.aload_n 1, 1) := by decide +kernel
theorem dX2_readTape_23 : decode cX2_readTape 23 = .ok (.iload_n 2, 1) := by decide +kernel
theorem dX2_readTape_24 : decode cX2_readTape 24 = .ok (.invokevirtual 55, 3) := by decide +kernel
theorem dX2_readTape_27 : decode cX2_readTape 27 = .ok (.iload_n 2, 1) := by decide +kernel
theorem dX2_readTape_28 : decode cX2_readTape 28 = .ok (.invokevirtual 59, 3) := by decide +kernel
theorem dX2_readTape_31 : decode cX2_readTape 31 = .ok (.iinc 2 1, 3) := by decide +kernel
theorem dX2_readTape_34 : decode cX2_readTape 34 = .ok (.goto (-28), 3) := by decide +kernel
theorem dX2_readTape_37 : decode cX2_readTape 37 = .ok (.aload_n 0, 1) := by decide +kernel
theorem dX2_readTape_38 : decode cX2_readTape 38 = .ok (.getfield 52, 3) := by decide +kernel
theorem dX2_readTape_41 : decode cX2_readTape 41 = .ok (.ifCond .ne 12, 3) := by decide +kernel
theorem dX2_readTape_44 : decode cX2_readTape 44 = .ok (.aload_n 0, 1) := by decide +kernel
theorem dX2_readTape_45 : decode cX2_readTape 45 = .ok (.iconst 0, 1) := by decide +kernel
theorem dX2_readTape_46 : decode cX2_readTape 46 = .ok (.aload_n 1, 1) := by decide +kernel
theorem dX2_readTape_47 : decode cX2_readTape 47 = .ok (.getfield 46, 3) := by decide +kernel
theorem dX2_readTape_50 : decode cX2_readTape 50 = .ok (.invokevirtual 63, 3) := by decide +kernel
theorem dX2_readTape_53 : decode cX2_readTape 53 = .ok (.return_, 1) := by decide +kernel
theorem dX2_exchangeTable_0 : decode cX2_exchangeTable 0 = .ok (.aload_n 0, 1) := by decide +kernel
theorem dX2_exchangeTable_1 : decode cX2_exchangeTable 1 = .ok (.getfield 39, 3) := by decide +kernel
theorem dX2_exchangeTable_4 : decode cX2_exchangeTable 4 = .ok (.astore_n 2, 1) := by decide +kernel
theorem dX2_exchangeTable_5 : decode cX2_exchangeTable 5 = .ok (.aload_n 0, 1) := by decide +kernel
theorem dX2_exchangeTable_6 : decode cX2_exchangeTable 6 = .ok (.aload_n 1, 1) := by decide +kernel
theorem dX2_exchangeTable_7 : decode cX2_exchangeTable 7 = .ok (.putfield 39, 3) := by decide +kernel
theorem dX2_exchangeTable_10 : decode cX2_exchangeTable 10 = .ok (.aload_n 2, 1) := by decide +kernel
theorem dX2_exchangeTable_11 : decode cX2_exchangeTable 11 = .ok (.areturn, 1) := by decide +kernel
theorem dX2_start_0 : decode cX2_start 0 = .ok (.aload_n 0, 1) := by decide +kernel
theorem dX2_start_1 : decode cX2_start 1 = .ok (.getfield 39, 3) := by decide +kernel
theorem dX2_start_4 : decode cX2_start 4 = .ok (.iconst 0, 1) := by decide +kernel
theorem dX2_start_5 : decode cX2_start 5 = .ok (.putfield 67, 3) := by decide +kernel
theorem dX2_start_8 : decode cX2_start 8 = .ok (.aload_n 0, 1) := by decide +kernel
theorem dX2_start_9 : decode cX2_start 9 = .ok (.getfield 12, 3) := by decide +kernel
theorem dX2_start_12 : decode cX2_start 12 = .ok (.invokevirtual 70, 3) := by decide +kernel
theorem dX2_start_15 : decode cX2_start 15 = .ok (.aload_n 0, 1) := by decide +kernel
theorem dX2_start_16 : decode cX2_start 16 = .ok (.getfield 25, 3) := by decide +kernel
theorem dX2_start_19 : decode cX2_start 19 = .ok (.invokevirtual 73, 3) := by decide +kernel
theorem dX2_start_22 : decode cX2_start 22 = .ok (.aload_n 0, 1) := by decide +kernel
theorem dX2_start_23 : decode cX2_start 23 = .ok (.iconst 0, 1) := by decide +kernel
theorem dX2_start_24 : decode cX2_start 24 = .ok (.putfield 76, 3) := by decide +kernel
theorem dX2_start_27 : decode cX2_start 27 = .ok (.aload_n 0, 1) := by decide +kernel
theorem dX2_start_28 : decode cX2_start 28 = .ok (.iconst 0, 1) := by decide +kernel
theorem dX2_start_29 : decode cX2_start 29 = .ok (.putfield 79, 3) := by decide +kernel
theorem dX2_start_32 : decode cX2_start 32 = .ok (.aload_n 0, 1) := by decide +kernel
theorem dX2_start_33 : decode cX2_start 33 = .ok (.iconst 0, 1) := by decide +kernel
theorem dX2_start_34 : decode cX2_start 34 = .ok (.putfield 82, 3) := by decide +kernel
theorem dX2_start_37 : decode cX2_start 37 = .ok (.aload_n 0, 1) := by decide +kernel
theorem dX2_start_38 : decode cX2_start 38 = .ok (.iconst 0, 1) := by decide +kernel
theorem dX2_start_39 : decode cX2_start 39 = .ok (.putfield 86, 3) := by decide +kernel
theorem dX2_start_42 : decode cX2_start 42 = .ok (.aload_n 0, 1) := by decide +kernel
theorem dX2_start_43 : decode cX2_start 43 = .ok (.iconst 0, 1) := by decide +kernel
theorem dX2_start_44 : decode cX2_start 44 = .ok (.putfield 52, 3) := by decide +kernel
theorem dX2_start_47 : decode cX2_start 47 = .ok (.aload_n 0, 1) := by decide +kernel
theorem dX2_start_48 : decode cX2_start 48 = .ok (.iconst 0, 1) := by decide +kernel
theorem dX2_start_49 : decode cX2_start 49 = .ok (.putfield 89, 3) := by decide +kernel
theorem dX2_start_52 : decode cX2_start 52 = .ok (.return_, 1) := by decide +kernel
theorem dX2_refuse_0 : decode cX2_refuse 0 = .ok (.aload_n 0, 1) := by decide +kernel
theorem dX2_refuse_1 : decode cX2_refuse 1 = .ok (.iload_n 1, 1) := by decide +kernel
theorem dX2_refuse_2 : decode cX2_refuse 2 = .ok (.putfield 52, 3) := by decide +kernel
theorem dX2_refuse_5 : decode cX2_refuse 5 = .ok (.aload_n 0, 1) := by decide +kernel
theorem dX2_refuse_6 : decode cX2_refuse 6 = .ok (.iload_n 2, 1) := by decide +kernel
theorem dX2_refuse_7 : decode cX2_refuse 7 = .ok (.putfield 89, 3) := by decide +kernel
theorem dX2_refuse_10 : decode cX2_refuse 10 = .ok (.return_, 1) := by decide +kernel
theorem dX2_takeCharacter_0 : decode cX2_takeCharacter 0 = .ok (.ldc 92, 2) := by decide +kernel
theorem dX2_takeCharacter_2 : decode cX2_takeCharacter 2 = .ok (.iload_n 1, 1) := by decide +kernel
theorem dX2_takeCharacter_3 : decode cX2_takeCharacter 3 = .ok (.invokevirtual 94, 3) := by decide +kernel
theorem dX2_takeCharacter_6 : decode cX2_takeCharacter 6 = .ok (.istore_n 3, 1) := by decide +kernel
theorem dX2_takeCharacter_7 : decode cX2_takeCharacter 7 = .ok (.iload_n 3, 1) := by decide +kernel
theorem dX2_takeCharacter_8 : decode cX2_takeCharacter 8 = .ok (.ifCond .lt 12, 3) := by decide +kernel
theorem dX2_takeCharacter_11 : decode cX2_takeCharacter 11 = .ok (.aload_n 0, 1) := by decide +kernel
theorem dX2_takeCharacter_12 : decode cX2_takeCharacter 12 = .ok (.iload_n 3, 1) := by decide +kernel
theorem dX2_takeCharacter_13 : decode cX2_takeCharacter 13 = .ok (.iload_n 2, 1) := by decide +kernel
theorem dX2_takeCharacter_14 : decode cX2_takeCharacter 14 = .ok (.invokevirtual 100, 3) := by decide +kernel
theorem dX2_takeCharacter_17 : decode cX2_takeCharacter 17 = .ok (.goto 54, 3) := by decide +kernel
theorem dX2_takeCharacter_20 : decode cX2_takeCharacter 20 = .ok (.iload_n 1, 1) := by decide +kernel
theorem dX2_takeCharacter_21 : decode cX2_takeCharacter 21 = .ok (.bipush 44, 2) := by decide +kernel
theorem dX2_takeCharacter_23 : decode cX2_takeCharacter 23 = .ok (.if_icmp .ne 17, 3) := by decide +kernel
theorem dX2_takeCharacter_26 : decode cX2_takeCharacter 26 = .ok (.aload_n 0, 1) := by decide +kernel
theorem dX2_takeCharacter_27 : decode cX2_takeCharacter 27 = .ok (.iconst 1, 1) := by decide +kernel
theorem dX2_takeCharacter_28 : decode cX2_takeCharacter 28 = .ok (.iload_n 2, 1) := by decide +kernel
theorem dX2_takeCharacter_29 : decode cX2_takeCharacter 29 = .ok (.invokevirtual 63, 3) := by decide +kernel
theorem dX2_takeCharacter_32 : decode cX2_takeCharacter 32 = .ok (.aload_n 0, 1) := by decide +kernel
theorem dX2_takeCharacter_33 : decode cX2_takeCharacter 33 = .ok (.iconst 1, 1) := by decide +kernel
theorem dX2_takeCharacter_34 : decode cX2_takeCharacter 34 = .ok (.putfield 82, 3) := by decide +kernel
theorem dX2_takeCharacter_37 : decode cX2_takeCharacter 37 = .ok (.goto 34, 3) := by decide +kernel
theorem dX2_takeCharacter_40 : decode cX2_takeCharacter 40 = .ok (.iload_n 1, 1) := by decide +kernel
theorem dX2_takeCharacter_41 : decode cX2_takeCharacter 41 = .ok (.bipush 59, 2) := by decide +kernel
theorem dX2_takeCharacter_43 : decode cX2_takeCharacter 43 = .ok (.if_icmp .ne 22, 3) := by decide +kernel
theorem dX2_takeCharacter_46 : decode cX2_takeCharacter 46 = .ok (.aload_n 0, 1) := by decide +kernel
theorem dX2_takeCharacter_47 : decode cX2_takeCharacter 47 = .ok (.iconst 0, 1) := by decide +kernel
theorem dX2_takeCharacter_48 : decode cX2_takeCharacter 48 = .ok (.iload_n 2, 1) := by decide +kernel
theorem dX2_takeCharacter_49 : decode cX2_takeCharacter 49 = .ok (.invokevirtual 63, 3) := by decide +kernel
theorem dX2_takeCharacter_52 : decode cX2_takeCharacter 52 = .ok (.aload_n 0, 1) := by decide +kernel
theorem dX2_takeCharacter_53 : decode cX2_takeCharacter 53 = .ok (.iconst 0, 1) := by decide +kernel
theorem dX2_takeCharacter_54 : decode cX2_takeCharacter 54 = .ok (.putfield 82, 3) := by decide +kernel
theorem dX2_takeCharacter_57 : decode cX2_takeCharacter 57 = .ok (.aload_n 0, 1) := by decide +kernel
theorem dX2_takeCharacter_58 : decode cX2_takeCharacter 58 = .ok (.iload_n 2, 1) := by decide +kernel
theorem dX2_takeCharacter_59 : decode cX2_takeCharacter 59 = .ok (.invokevirtual 104, 3) := by decide +kernel
theorem dX2_takeCharacter_62 : decode cX2_takeCharacter 62 = .ok (.goto 9, 3) := by decide +kernel
theorem dX2_takeCharacter_65 : decode cX2_takeCharacter 65 = .ok (.aload_n 0, 1) := by decide +kernel
theorem dX2_takeCharacter_66 : decode cX2_takeCharacter 66 = .ok (.iconst 1, 1) := by decide +kernel
theorem dX2_takeCharacter_67 : decode cX2_takeCharacter 67 = .ok (.iload_n 2, 1) := by decide +kernel
theorem dX2_takeCharacter_68 : decode cX2_takeCharacter 68 = .ok (.invokevirtual 108, 3) := by decide +kernel
theorem dX2_takeCharacter_71 : decode cX2_takeCharacter 71 = .ok (.return_, 1) := by decide +kernel
theorem dX2_takeDigit_0 : decode cX2_takeDigit 0 = .ok (.aload_n 0, 1) := by decide +kernel
theorem dX2_takeDigit_1 : decode cX2_takeDigit 1 = .ok (.getfield 76, 3) := by decide +kernel
theorem dX2_takeDigit_4 : decode cX2_takeDigit 4 = .ok (.ifCond .ne 18, 3) := by decide +kernel
theorem dX2_takeDigit_7 : decode cX2_takeDigit 7 = .ok (.aload_n 0, 1) := by decide +kernel
theorem dX2_takeDigit_8 : decode cX2_takeDigit 8 = .ok (.getfield 12, 3) := by decide +kernel
theorem dX2_takeDigit_11 : decode cX2_takeDigit 11 = .ok (.getfield 111, 3) := by decide +kernel
theorem dX2_takeDigit_14 : decode cX2_takeDigit 14 = .ok (.ifCond .ne 8, 3) := by decide +kernel
theorem dX2_takeDigit_17 : decode cX2_takeDigit 17 = .ok (.aload_n 0, 1) := by decide +kernel
theorem dX2_takeDigit_18 : decode cX2_takeDigit 18 = .ok (.iload_n 2, 1) := by decide +kernel
theorem dX2_takeDigit_19 : decode cX2_takeDigit 19 = .ok (.putfield 79, 3) := by decide +kernel
theorem dX2_takeDigit_22 : decode cX2_takeDigit 22 = .ok (.aload_n 0, 1) := by decide +kernel
theorem dX2_takeDigit_23 : decode cX2_takeDigit 23 = .ok (.getfield 12, 3) := by decide +kernel
theorem dX2_takeDigit_26 : decode cX2_takeDigit 26 = .ok (.iload_n 1, 1) := by decide +kernel
theorem dX2_takeDigit_27 : decode cX2_takeDigit 27 = .ok (.iload_n 2, 1) := by decide +kernel
theorem dX2_takeDigit_28 : decode cX2_takeDigit 28 = .ok (.invokevirtual 114, 3) := by decide +kernel
theorem dX2_takeDigit_31 : decode cX2_takeDigit 31 = .ok (.aload_n 0, 1) := by decide +kernel
theorem dX2_takeDigit_32 : decode cX2_takeDigit 32 = .ok (.getfield 12, 3) := by decide +kernel
theorem dX2_takeDigit_35 : decode cX2_takeDigit 35 = .ok (.getfield 111, 3) := by decide +kernel
theorem dX2_takeDigit_38 : decode cX2_takeDigit 38 = .ok (.ifCond .eq 4, 3) := by decide +kernel
theorem dX2_takeDigit_41 : decode cX2_takeDigit 41 = .ok (.return_, 1) := by decide +kernel
theorem dX2_takeDigit_42 : decode cX2_takeDigit 42 = .ok (.aload_n 0, 1) := by decide +kernel
theorem dX2_takeDigit_43 : decode cX2_takeDigit 43 = .ok (.getfield 12, 3) := by decide +kernel
theorem dX2_takeDigit_46 : decode cX2_takeDigit 46 = .ok (.invokevirtual 117, 3) := by decide +kernel
theorem dX2_takeDigit_49 : decode cX2_takeDigit 49 = .ok (.ifCond .eq 16, 3) := by decide +kernel
theorem dX2_takeDigit_52 : decode cX2_takeDigit 52 = .ok (.aload_n 0, 1) := by decide +kernel
theorem dX2_takeDigit_53 : decode cX2_takeDigit 53 = .ok (.iconst 2, 1) := by decide +kernel
theorem dX2_takeDigit_54 : decode cX2_takeDigit 54 = .ok (.aload_n 0, 1) := by decide +kernel
theorem dX2_takeDigit_55 : decode cX2_takeDigit 55 = .ok (.getfield 12, 3) := by decide +kernel
theorem dX2_takeDigit_58 : decode cX2_takeDigit 58 = .ok (.getfield 121, 3) := by decide +kernel
theorem dX2_takeDigit_61 : decode cX2_takeDigit 61 = .ok (.invokevirtual 108, 3) := by decide +kernel
theorem dX2_takeDigit_64 : decode cX2_takeDigit 64 = .ok (.return_, 1) := by decide +kernel
theorem dX2_takeDigit_65 : decode cX2_takeDigit 65 = .ok (.aload_n 0, 1) := by decide +kernel
theorem dX2_takeDigit_66 : decode cX2_takeDigit 66 = .ok (.getfield 76, 3) := by decide +kernel
theorem dX2_takeDigit_69 : decode cX2_takeDigit 69 = .ok (.iconst 5, 1) := by decide +kernel
theorem dX2_takeDigit_70 : decode cX2_takeDigit 70 = .ok (.if_icmp .ge 19, 3) := by decide +kernel
theorem dX2_takeDigit_73 : decode cX2_takeDigit 73 = .ok (.aload_n 0, 1) := by decide +kernel
theorem dX2_takeDigit_74 : decode cX2_takeDigit 74 = .ok (.getfield 18, 3) := by decide +kernel
theorem dX2_takeDigit_77 : decode cX2_takeDigit 77 = .ok (.aload_n 0, 1) := by decide +kernel
theorem dX2_takeDigit_78 : decode cX2_takeDigit 78 = .ok (.getfield 76, 3) := by decide +kernel
theorem dX2_takeDigit_81 : decode cX2_takeDigit 81 = .ok (.aload_n 0, 1) := by decide +kernel
theorem dX2_takeDigit_82 : decode cX2_takeDigit 82 = .ok (.getfield 12, 3) := by decide +kernel
theorem dX2_takeDigit_85 : decode cX2_takeDigit 85 = .ok (.invokevirtual 123, 3) := by decide +kernel
theorem dX2_takeDigit_88 : decode cX2_takeDigit 88 = .ok (.lastore, 1) := by decide +kernel
theorem dX2_takeDigit_89 : decode cX2_takeDigit 89 = .ok (.aload_n 0, 1) := by decide +kernel
theorem dX2_takeDigit_90 : decode cX2_takeDigit 90 = .ok (.dup, 1) := by decide +kernel
theorem dX2_takeDigit_91 : decode cX2_takeDigit 91 = .ok (.getfield 76, 3) := by decide +kernel
theorem dX2_takeDigit_94 : decode cX2_takeDigit 94 = .ok (.iconst 1, 1) := by decide +kernel
theorem dX2_takeDigit_95 : decode cX2_takeDigit 95 = .ok (.iadd, 1) := by decide +kernel
theorem dX2_takeDigit_96 : decode cX2_takeDigit 96 = .ok (.putfield 76, 3) := by decide +kernel
theorem dX2_takeDigit_99 : decode cX2_takeDigit 99 = .ok (.return_, 1) := by decide +kernel
theorem dX2_startLine_0 : decode cX2_startLine 0 = .ok (.aload_n 0, 1) := by decide +kernel
theorem dX2_startLine_1 : decode cX2_startLine 1 = .ok (.getfield 52, 3) := by decide +kernel
theorem dX2_startLine_4 : decode cX2_startLine 4 = .ok (.ifCond .eq 4, 3) := by decide +kernel
theorem dX2_startLine_7 : decode cX2_startLine 7 = .ok (.return_, 1) := by decide +kernel
theorem dX2_startLine_8 : decode cX2_startLine 8 = .ok (.aload_n 0, 1) := by decide +kernel
theorem dX2_startLine_9 : decode cX2_startLine 9 = .ok (.getfield 86, 3) := by decide +kernel
theorem dX2_startLine_12 : decode cX2_startLine 12 = .ok (.sipush 199, 3) := by decide +kernel
theorem dX2_startLine_15 : decode cX2_startLine 15 = .ok (.if_icmp .lt 10, 3) := by decide +kernel
theorem dX2_startLine_18 : decode cX2_startLine 18 = .ok (.aload_n 0, 1) := by decide +kernel
theorem dX2_startLine_19 : decode cX2_startLine 19 = .ok (.iconst 5, 1) := by decide +kernel
theorem dX2_startLine_20 : decode cX2_startLine 20 = .ok (.iload_n 1, 1) := by decide +kernel
theorem dX2_startLine_21 : decode cX2_startLine 21 = .ok (.invokevirtual 108, 3) := by decide +kernel
theorem dX2_startLine_24 : decode cX2_startLine 24 = .ok (.return_, 1) := by decide +kernel
theorem dX2_startLine_25 : decode cX2_startLine 25 = .ok (.aload_n 0, 1) := by decide +kernel
theorem dX2_startLine_26 : decode cX2_startLine 26 = .ok (.dup, 1) := by decide +kernel
theorem dX2_startLine_27 : decode cX2_startLine 27 = .ok (.getfield 86, 3) := by decide +kernel
theorem dX2_startLine_30 : decode cX2_startLine 30 = .ok (.iconst 1, 1) := by decide +kernel
theorem dX2_startLine_31 : decode cX2_startLine 31 = .ok (.iadd, 1) := by decide +kernel
theorem dX2_startLine_32 : decode cX2_startLine 32 = .ok (.putfield 86, 3) := by decide +kernel
theorem dX2_startLine_35 : decode cX2_startLine 35 = .ok (.aload_n 0, 1) := by decide +kernel
theorem dX2_startLine_36 : decode cX2_startLine 36 = .ok (.getfield 25, 3) := by decide +kernel
theorem dX2_startLine_39 : decode cX2_startLine 39 = .ok (.invokevirtual 127, 3) := by decide +kernel
theorem dX2_startLine_42 : decode cX2_startLine 42 = .ok (.return_, 1) := by decide +kernel
theorem dX2_endSegment_0 : decode cX2_endSegment 0 = .ok (.aload_n 0, 1) := by decide +kernel
theorem dX2_endSegment_1 : decode cX2_endSegment 1 = .ok (.getfield 12, 3) := by decide +kernel
theorem dX2_endSegment_4 : decode cX2_endSegment 4 = .ok (.getfield 111, 3) := by decide +kernel
theorem dX2_endSegment_7 : decode cX2_endSegment 7 = .ok (.ifCond .eq 12, 3) := by decide +kernel
theorem dX2_endSegment_10 : decode cX2_endSegment 10 = .ok (.aload_n 0, 1) := by decide +kernel
theorem dX2_endSegment_11 : decode cX2_endSegment 11 = .ok (.iconst 2, 1) := by decide +kernel
theorem dX2_endSegment_12 : decode cX2_endSegment 12 = .ok (.iload_n 2, 1) := by decide +kernel
theorem dX2_endSegment_13 : decode cX2_endSegment 13 = .ok (.invokevirtual 108, 3) := by decide +kernel
theorem dX2_endSegment_16 : decode cX2_endSegment 16 = .ok (.goto 34, 3) := by decide +kernel
theorem dX2_endSegment_19 : decode cX2_endSegment 19 = .ok (.aload_n 0, 1) := by decide +kernel
theorem dX2_endSegment_20 : decode cX2_endSegment 20 = .ok (.getfield 76, 3) := by decide +kernel
theorem dX2_endSegment_23 : decode cX2_endSegment 23 = .ok (.ifCond .le 10, 3) := by decide +kernel
theorem dX2_endSegment_26 : decode cX2_endSegment 26 = .ok (.aload_n 0, 1) := by decide +kernel
theorem dX2_endSegment_27 : decode cX2_endSegment 27 = .ok (.invokevirtual 129, 3) := by decide +kernel
theorem dX2_endSegment_30 : decode cX2_endSegment 30 = .ok (.goto 20, 3) := by decide +kernel
theorem dX2_endSegment_33 : decode cX2_endSegment 33 = .ok (.iload_n 1, 1) := by decide +kernel
theorem dX2_endSegment_34 : decode cX2_endSegment 34 = .ok (.ifCond .ne 10, 3) := by decide +kernel
theorem dX2_endSegment_37 : decode cX2_endSegment 37 = .ok (.aload_n 0, 1) := by decide +kernel
theorem dX2_endSegment_38 : decode cX2_endSegment 38 = .ok (.getfield 82, 3) := by decide +kernel
theorem dX2_endSegment_41 : decode cX2_endSegment 41 = .ok (.ifCond .eq 9, 3) := by decide +kernel
theorem dX2_endSegment_44 : decode cX2_endSegment 44 = .ok (.aload_n 0, 1) := by decide +kernel
theorem dX2_endSegment_45 : decode cX2_endSegment 45 = .ok (.iconst 3, 1) := by decide +kernel
theorem dX2_endSegment_46 : decode cX2_endSegment 46 = .ok (.iload_n 2, 1) := by decide +kernel
theorem dX2_endSegment_47 : decode cX2_endSegment 47 = .ok (.invokevirtual 108, 3) := by decide +kernel
theorem dX2_endSegment_50 : decode cX2_endSegment 50 = .ok (.aload_n 0, 1) := by decide +kernel
theorem dX2_endSegment_51 : decode cX2_endSegment 51 = .ok (.iconst 0, 1) := by decide +kernel
theorem dX2_endSegment_52 : decode cX2_endSegment 52 = .ok (.putfield 76, 3) := by decide +kernel
theorem dX2_endSegment_55 : decode cX2_endSegment 55 = .ok (.return_, 1) := by decide +kernel
theorem dX2_addSegment_0 : decode cX2_addSegment 0 = .ok (.aload_n 0, 1) := by decide +kernel
theorem dX2_addSegment_1 : decode cX2_addSegment 1 = .ok (.getfield 76, 3) := by decide +kernel
theorem dX2_addSegment_4 : decode cX2_addSegment 4 = .ok (.iconst 1, 1) := by decide +kernel
theorem dX2_addSegment_5 : decode cX2_addSegment 5 = .ok (.if_icmp .eq 31, 3) := by decide +kernel
theorem dX2_addSegment_8 : decode cX2_addSegment 8 = .ok (.aload_n 0, 1) := by decide +kernel
theorem dX2_addSegment_9 : decode cX2_addSegment 9 = .ok (.getfield 76, 3) := by decide +kernel
theorem dX2_addSegment_12 : decode cX2_addSegment 12 = .ok (.iconst 4, 1) := by decide +kernel
theorem dX2_addSegment_13 : decode cX2_addSegment 13 = .ok (.if_icmp .eq 23, 3) := by decide +kernel
theorem dX2_addSegment_16 : decode cX2_addSegment 16 = .ok (.aload_n 0, 1) := by decide +kernel
theorem dX2_addSegment_17 : decode cX2_addSegment 17 = .ok (.getfield 76, 3) := by decide +kernel
theorem dX2_addSegment_20 : decode cX2_addSegment 20 = .ok (.iconst 5, 1) := by decide +kernel
theorem dX2_addSegment_21 : decode cX2_addSegment 21 = .ok (.if_icmp .eq 15, 3) := by decide +kernel
theorem dX2_addSegment_24 : decode cX2_addSegment 24 = .ok (.aload_n 0, 1) := by decide +kernel
theorem dX2_addSegment_25 : decode cX2_addSegment 25 = .ok (.iconst 3, 1) := by decide +kernel
theorem dX2_addSegment_26 : decode cX2_addSegment 26 = .ok (.aload_n 0, 1) := by decide +kernel
theorem dX2_addSegment_27 : decode cX2_addSegment 27 = .ok (.getfield 79, 3) := by decide +kernel
theorem dX2_addSegment_30 : decode cX2_addSegment 30 = .ok (.invokevirtual 108, 3) := by decide +kernel
theorem dX2_addSegment_33 : decode cX2_addSegment 33 = .ok (.goto 66, 3) := by decide +kernel
theorem dX2_addSegment_36 : decode cX2_addSegment 36 = .ok (.aload_n 0, 1) := by decide +kernel
theorem dX2_addSegment_37 : decode cX2_addSegment 37 = .ok (.invokevirtual 132, 3) := by decide +kernel
theorem dX2_addSegment_40 : decode cX2_addSegment 40 = .ok (.ifCond .ne 15, 3) := by decide +kernel
theorem dX2_addSegment_43 : decode cX2_addSegment 43 = .ok (.aload_n 0, 1) := by decide +kernel
theorem dX2_addSegment_44 : decode cX2_addSegment 44 = .ok (.iconst 4, 1) := by decide +kernel
theorem dX2_addSegment_45 : decode cX2_addSegment 45 = .ok (.aload_n 0, 1) := by decide +kernel
theorem dX2_addSegment_46 : decode cX2_addSegment 46 = .ok (.getfield 79, 3) := by decide +kernel
theorem dX2_addSegment_49 : decode cX2_addSegment 49 = .ok (.invokevirtual 108, 3) := by decide +kernel
theorem dX2_addSegment_52 : decode cX2_addSegment 52 = .ok (.goto 47, 3) := by decide +kernel
theorem dX2_addSegment_55 : decode cX2_addSegment 55 = .ok (.aload_n 0, 1) := by decide +kernel
theorem dX2_addSegment_56 : decode cX2_addSegment 56 = .ok (.getfield 39, 3) := by decide +kernel
theorem dX2_addSegment_59 : decode cX2_addSegment 59 = .ok (.invokevirtual 135, 3) := by decide +kernel
theorem dX2_addSegment_62 : decode cX2_addSegment 62 = .ok (.ifCond .eq 15, 3) := by decide +kernel
theorem dX2_addSegment_65 : decode cX2_addSegment 65 = .ok (.aload_n 0, 1) := by decide +kernel
theorem dX2_addSegment_66 : decode cX2_addSegment 66 = .ok (.iconst 5, 1) := by decide +kernel
theorem dX2_addSegment_67 : decode cX2_addSegment 67 = .ok (.aload_n 0, 1) := by decide +kernel
theorem dX2_addSegment_68 : decode cX2_addSegment 68 = .ok (.getfield 79, 3) := by decide +kernel
theorem dX2_addSegment_71 : decode cX2_addSegment 71 = .ok (.invokevirtual 108, 3) := by decide +kernel
theorem dX2_addSegment_74 : decode cX2_addSegment 74 = .ok (.goto 25, 3) := by decide +kernel
theorem dX2_addSegment_77 : decode cX2_addSegment 77 = .ok (.aload_n 0, 1) := by decide +kernel
theorem dX2_addSegment_78 : decode cX2_addSegment 78 = .ok (.getfield 39, 3) := by decide +kernel
theorem dX2_addSegment_81 : decode cX2_addSegment 81 = .ok (.aload_n 0, 1) := by decide +kernel
theorem dX2_addSegment_82 : decode cX2_addSegment 82 = .ok (.getfield 32, 3) := by decide +kernel
theorem dX2_addSegment_85 : decode cX2_addSegment 85 = .ok (.invokevirtual 138, 3) := by decide +kernel
theorem dX2_addSegment_88 : decode cX2_addSegment 88 = .ok (.aload_n 0, 1) := by decide +kernel
theorem dX2_addSegment_89 : decode cX2_addSegment 89 = .ok (.getfield 25, 3) := by decide +kernel
theorem dX2_addSegment_92 : decode cX2_addSegment 92 = .ok (.aload_n 0, 1) := by decide +kernel
theorem dX2_addSegment_93 : decode cX2_addSegment 93 = .ok (.getfield 32, 3) := by decide +kernel
theorem dX2_addSegment_96 : decode cX2_addSegment 96 = .ok (.invokevirtual 142, 3) := by decide +kernel
theorem dX2_addSegment_99 : decode cX2_addSegment 99 = .ok (.return_, 1) := by decide +kernel
theorem dX2_addUp_0 : decode cX2_addUp 0 = .ok (.aload_n 0, 1) := by decide +kernel
theorem dX2_addUp_1 : decode cX2_addUp 1 = .ok (.getfield 25, 3) := by decide +kernel
theorem dX2_addUp_4 : decode cX2_addUp 4 = .ok (.getfield 145, 3) := by decide +kernel
theorem dX2_addUp_7 : decode cX2_addUp 7 = .ok (.i2l, 1) := by decide +kernel
theorem dX2_addUp_8 : decode cX2_addUp 8 = .ok (.aload_n 0, 1) := by decide +kernel
theorem dX2_addUp_9 : decode cX2_addUp 9 = .ok (.getfield 18, 3) := by decide +kernel
theorem dX2_addUp_12 : decode cX2_addUp 12 = .ok (.iconst 0, 1) := by decide +kernel
theorem dX2_addUp_13 : decode cX2_addUp 13 = .ok (.laload, 1) := by decide +kernel
theorem dX2_addUp_14 : decode cX2_addUp 14 = .ok (.ladd, 1) := by decide +kernel
theorem dX2_addUp_15 : decode cX2_addUp 15 = .ok (.lstore_n 1, 1) := by decide +kernel
theorem dX2_addUp_16 : decode cX2_addUp 16 = .ok (.aload_n 0, 1) := by decide +kernel
theorem dX2_addUp_17 : decode cX2_addUp 17 = .ok (.getfield 18, 3) := by decide +kernel
theorem dX2_addUp_20 : decode cX2_addUp 20 = .ok (.iconst 0, 1) := by decide +kernel
theorem dX2_addUp_21 : decode cX2_addUp 21 = .ok (.laload, 1) := by decide +kernel
theorem dX2_addUp_22 : decode cX2_addUp 22 = .ok (.lconst 0, 1) := by decide +kernel
theorem dX2_addUp_23 : decode cX2_addUp 23 = .ok (.lcmp, 1) := by decide +kernel
theorem dX2_addUp_24 : decode cX2_addUp 24 = .ok (.ifCond .lt 11, 3) := by decide +kernel
theorem dX2_addUp_27 : decode cX2_addUp 27 = .ok (.lload_n 1, 1) := by decide +kernel
theorem dX2_addUp_28 : decode cX2_addUp 28 = .ok (.ldc2_w 148, 3) := by decide +kernel
theorem dX2_addUp_31 : decode cX2_addUp 31 = .ok (.lcmp, 1) := by decide +kernel
theorem dX2_addUp_32 : decode cX2_addUp 32 = .ok (.ifCond .le 5, 3) := by decide +kernel
theorem dX2_addUp_35 : decode cX2_addUp 35 = .ok (.iconst 0, 1) := by decide +kernel
theorem dX2_addUp_36 : decode cX2_addUp 36 = .ok (.ireturn, 1) := by decide +kernel
theorem dX2_addUp_37 : decode cX2_addUp 37 = .ok (.aload_n 0, 1) := by decide +kernel
theorem dX2_addUp_38 : decode cX2_addUp 38 = .ok (.getfield 32, 3) := by decide +kernel
theorem dX2_addUp_41 : decode cX2_addUp 41 = .ok (.aload_n 0, 1) := by decide +kernel
theorem dX2_addUp_42 : decode cX2_addUp 42 = .ok (.getfield 86, 3) := by decide +kernel
theorem dX2_addUp_45 : decode cX2_addUp 45 = .ok (.lload_n 1, 1) := by decide +kernel
theorem dX2_addUp_46 : decode cX2_addUp 46 = .ok (.l2i, 1) := by decide +kernel
theorem dX2_addUp_47 : decode cX2_addUp 47 = .ok (.invokevirtual 150, 3) := by decide +kernel
theorem dX2_addUp_50 : decode cX2_addUp 50 = .ok (.aload_n 0, 1) := by decide +kernel
theorem dX2_addUp_51 : decode cX2_addUp 51 = .ok (.getfield 76, 3) := by decide +kernel
theorem dX2_addUp_54 : decode cX2_addUp 54 = .ok (.iconst 4, 1) := by decide +kernel
theorem dX2_addUp_55 : decode cX2_addUp 55 = .ok (.if_icmp .ge 5, 3) := by decide +kernel
theorem dX2_addUp_58 : decode cX2_addUp 58 = .ok (.iconst 1, 1) := by decide +kernel
theorem dX2_addUp_59 : decode cX2_addUp 59 = .ok (.ireturn, 1) := by decide +kernel
theorem dX2_addUp_60 : decode cX2_addUp 60 = .ok (.aload_n 0, 1) := by decide +kernel
theorem dX2_addUp_61 : decode cX2_addUp 61 = .ok (.getfield 25, 3) := by decide +kernel
theorem dX2_addUp_64 : decode cX2_addUp 64 = .ok (.getfield 153, 3) := by decide +kernel
theorem dX2_addUp_67 : decode cX2_addUp 67 = .ok (.i2l, 1) := by decide +kernel
theorem dX2_addUp_68 : decode cX2_addUp 68 = .ok (.aload_n 0, 1) := by decide +kernel
theorem dX2_addUp_69 : decode cX2_addUp 69 = .ok (.getfield 18, 3) := by decide +kernel
theorem dX2_addUp_72 : decode cX2_addUp 72 = .ok (.iconst 1, 1) := by decide +kernel
theorem dX2_addUp_73 : decode cX2_addUp 73 = .ok (.laload, 1) := by decide +kernel
theorem dX2_addUp_74 : decode cX2_addUp 74 = .ok (.ladd, 1) := by decide +kernel
theorem dX2_addUp_75 : decode cX2_addUp 75 = .ok (.lstore_n 3, 1) := by decide +kernel
theorem dX2_addUp_76 : decode cX2_addUp 76 = .ok (.aload_n 0, 1) := by decide +kernel
theorem dX2_addUp_77 : decode cX2_addUp 77 = .ok (.getfield 25, 3) := by decide +kernel
theorem dX2_addUp_80 : decode cX2_addUp 80 = .ok (.getfield 156, 3) := by decide +kernel
theorem dX2_addUp_83 : decode cX2_addUp 83 = .ok (.i2l, 1) := by decide +kernel
theorem dX2_addUp_84 : decode cX2_addUp 84 = .ok (.aload_n 0, 1) := by decide +kernel
theorem dX2_addUp_85 : decode cX2_addUp 85 = .ok (.getfield 18, 3) := by decide +kernel
theorem dX2_addUp_88 : decode cX2_addUp 88 = .ok (.iconst 2, 1) := by decide +kernel
theorem dX2_addUp_89 : decode cX2_addUp 89 = .ok (.laload, 1) := by decide +kernel
theorem dX2_addUp_90 : decode cX2_addUp 90 = .ok (.ladd, 1) := by decide +kernel
theorem dX2_addUp_91 : decode cX2_addUp 91 = .ok (.lstore 5, 2) := by decide +kernel
theorem dX2_addUp_93 : decode cX2_addUp 93 = .ok (.aload_n 0, 1) := by decide +kernel
theorem dX2_addUp_94 : decode cX2_addUp 94 = .ok (.getfield 25, 3) := by decide +kernel
theorem dX2_addUp_97 : decode cX2_addUp 97 = .ok (.getfield 159, 3) := by decide +kernel
theorem dX2_addUp_100 : decode cX2_addUp 100 = .ok (.i2l, 1) := by decide +kernel
theorem dX2_addUp_101 : decode cX2_addUp 101 = .ok (.aload_n 0, 1) := by decide +kernel
theorem dX2_addUp_102 : decode cX2_addUp 102 = .ok (.getfield 18, 3) := by decide +kernel
theorem dX2_addUp_105 : decode cX2_addUp 105 = .ok (.iconst 3, 1) := by decide +kernel
theorem dX2_addUp_106 : decode cX2_addUp 106 = .ok (.laload, 1) := by decide +kernel
theorem dX2_addUp_107 : decode cX2_addUp 107 = .ok (.ladd, 1) := by decide +kernel
theorem dX2_addUp_108 : decode cX2_addUp 108 = .ok (.lstore 7, 2) := by decide +kernel
theorem dX2_addUp_110 : decode cX2_addUp 110 = .ok (.aload_n 0, 1) := by decide +kernel
theorem dX2_addUp_111 : decode cX2_addUp 111 = .ok (.getfield 76, 3) := by decide +kernel
theorem dX2_addUp_114 : decode cX2_addUp 114 = .ok (.iconst 5, 1) := by decide +kernel
theorem dX2_addUp_115 : decode cX2_addUp 115 = .ok (.if_icmp .ge 7, 3) := by decide +kernel
theorem dX2_addUp_118 : decode cX2_addUp 118 = .ok (.lconst 0, 1) := by decide +kernel
theorem dX2_addUp_119 : decode cX2_addUp 119 = .ok (.goto 18, 3) := by decide +kernel
theorem dX2_addUp_122 : decode cX2_addUp 122 = .ok (.aload_n 0, 1) := by decide +kernel
theorem dX2_addUp_123 : decode cX2_addUp 123 = .ok (.getfield 25, 3) := by decide +kernel
theorem dX2_addUp_126 : decode cX2_addUp 126 = .ok (.getfield 162, 3) := by decide +kernel
theorem dX2_addUp_129 : decode cX2_addUp 129 = .ok (.i2l, 1) := by decide +kernel
theorem dX2_addUp_130 : decode cX2_addUp 130 = .ok (.aload_n 0, 1) := by decide +kernel
theorem dX2_addUp_131 : decode cX2_addUp 131 = .ok (.getfield 18, 3) := by decide +kernel
theorem dX2_addUp_134 : decode cX2_addUp 134 = .ok (.iconst 4, 1) := by decide +kernel
theorem dX2_addUp_135 : decode cX2_addUp 135 = .ok (.laload, 1) := by decide +kernel
theorem dX2_addUp_136 : decode cX2_addUp 136 = .ok (.ladd, 1) := by decide +kernel
theorem dX2_addUp_137 : decode cX2_addUp 137 = .ok (.lstore 9, 2) := by decide +kernel
theorem dX2_addUp_139 : decode cX2_addUp 139 = .ok (.lload_n 3, 1) := by decide +kernel
theorem dX2_addUp_140 : decode cX2_addUp 140 = .ok (.bipush 99, 2) := by decide +kernel
theorem dX2_addUp_142 : decode cX2_addUp 142 = .ok (.invokestatic 165, 3) := by decide +kernel
theorem dX2_addUp_145 : decode cX2_addUp 145 = .ok (.ifCond .eq 33, 3) := by decide +kernel
theorem dX2_addUp_148 : decode cX2_addUp 148 = .ok (.lload 5, 2) := by decide +kernel
theorem dX2_addUp_150 : decode cX2_addUp 150 = .ok (.ldc 169, 2) := by decide +kernel
theorem dX2_addUp_152 : decode cX2_addUp 152 = .ok (.invokestatic 165, 3) := by decide +kernel
theorem dX2_addUp_155 : decode cX2_addUp 155 = .ok (.ifCond .eq 23, 3) := by decide +kernel
theorem dX2_addUp_158 : decode cX2_addUp 158 = .ok (.lload 7, 2) := by decide +kernel
theorem dX2_addUp_160 : decode cX2_addUp 160 = .ok (.ldc 169, 2) := by decide +kernel
theorem dX2_addUp_162 : decode cX2_addUp 162 = .ok (.invokestatic 165, 3) := by decide +kernel
theorem dX2_addUp_165 : decode cX2_addUp 165 = .ok (.ifCond .eq 13, 3) := by decide +kernel
theorem dX2_addUp_168 : decode cX2_addUp 168 = .ok (.lload 9, 2) := by decide +kernel
theorem dX2_addUp_170 : decode cX2_addUp 170 = .ok (.bipush 99, 2) := by decide +kernel
theorem dX2_addUp_172 : decode cX2_addUp 172 = .ok (.invokestatic 165, 3) := by decide +kernel
theorem dX2_addUp_175 : decode cX2_addUp 175 = .ok (.ifCond .ne 5, 3) := by decide +kernel
theorem dX2_addUp_178 : decode cX2_addUp 178 = .ok (.iconst 0, 1) := by decide +kernel
theorem dX2_addUp_179 : decode cX2_addUp 179 = .ok (.ireturn, 1) := by decide +kernel
theorem dX2_addUp_180 : decode cX2_addUp 180 = .ok (.aload_n 0, 1) := by decide +kernel
theorem dX2_addUp_181 : decode cX2_addUp 181 = .ok (.getfield 32, 3) := by decide +kernel
theorem dX2_addUp_184 : decode cX2_addUp 184 = .ok (.lload_n 3, 1) := by decide +kernel
theorem dX2_addUp_185 : decode cX2_addUp 185 = .ok (.l2i, 1) := by decide +kernel
theorem dX2_addUp_186 : decode cX2_addUp 186 = .ok (.lload 5, 2) := by decide +kernel
theorem dX2_addUp_188 : decode cX2_addUp 188 = .ok (.l2i, 1) := by decide +kernel
theorem dX2_addUp_189 : decode cX2_addUp 189 = .ok (.lload 7, 2) := by decide +kernel
theorem dX2_addUp_191 : decode cX2_addUp 191 = .ok (.l2i, 1) := by decide +kernel
theorem dX2_addUp_192 : decode cX2_addUp 192 = .ok (.aload_n 0, 1) := by decide +kernel
theorem dX2_addUp_193 : decode cX2_addUp 193 = .ok (.getfield 76, 3) := by decide +kernel
theorem dX2_addUp_196 : decode cX2_addUp 196 = .ok (.iconst 5, 1) := by decide +kernel
theorem dX2_addUp_197 : decode cX2_addUp 197 = .ok (.if_icmp .ge 7, 3) := by decide +kernel
theorem dX2_addUp_200 : decode cX2_addUp 200 = .ok (.iconst (-1), 1) := by decide +kernel
theorem dX2_addUp_201 : decode cX2_addUp 201 = .ok (.goto 6, 3) := by decide +kernel
theorem dX2_addUp_204 : decode cX2_addUp 204 = .ok (.lload 9, 2) := by decide +kernel
theorem dX2_addUp_206 : decode cX2_addUp 206 = .ok (.l2i, 1) := by decide +kernel
theorem dX2_addUp_207 : decode cX2_addUp 207 = .ok (.invokevirtual 170, 3) := by decide +kernel
theorem dX2_addUp_210 : decode cX2_addUp 210 = .ok (.iconst 1, 1) := by decide +kernel
theorem dX2_addUp_211 : decode cX2_addUp 211 = .ok (.ireturn, 1) := by decide +kernel
theorem dX3_init_0 : decode cX3_init 0 = .ok (.aload_n 0, 1) := by decide +kernel
theorem dX3_init_1 : decode cX3_init 1 = .ok (.invokespecial 3, 3) := by decide +kernel
theorem dX3_init_4 : decode cX3_init 4 = .ok (.return_, 1) := by decide +kernel
theorem dX3_standAt_0 : decode cX3_standAt 0 = .ok (.aload_n 0, 1) := by decide +kernel
theorem dX3_standAt_1 : decode cX3_standAt 1 = .ok (.iload_n 1, 1) := by decide +kernel
theorem dX3_standAt_2 : decode cX3_standAt 2 = .ok (.putfield 9, 3) := by decide +kernel
theorem dX3_standAt_5 : decode cX3_standAt 5 = .ok (.aload_n 0, 1) := by decide +kernel
theorem dX3_standAt_6 : decode cX3_standAt 6 = .ok (.iload_n 2, 1) := by decide +kernel
theorem dX3_standAt_7 : decode cX3_standAt 7 = .ok (.putfield 15, 3) := by decide +kernel
theorem dX3_standAt_10 : decode cX3_standAt 10 = .ok (.aload_n 0, 1) := by decide +kernel
theorem dX3_standAt_11 : decode cX3_standAt 11 = .ok (.iconst (-1), 1) := by decide +kernel
theorem dX3_standAt_12 : decode cX3_standAt 12 = .ok (.putfield 18, 3) := by decide +kernel
theorem dX3_standAt_15 : decode cX3_standAt 15 = .ok (.aload_n 0, 1) := by decide +kernel
theorem dX3_standAt_16 : decode cX3_standAt 16 = .ok (.iconst (-1), 1) := by decide +kernel
theorem dX3_standAt_17 : decode cX3_standAt 17 = .ok (.putfield 21, 3) := by decide +kernel
theorem dX3_standAt_20 : decode cX3_standAt 20 = .ok (.aload_n 0, 1) := by decide +kernel
theorem dX3_standAt_21 : decode cX3_standAt 21 = .ok (.iconst (-1), 1) := by decide +kernel
theorem dX3_standAt_22 : decode cX3_standAt 22 = .ok (.putfield 24, 3) := by decide +kernel
theorem dX3_standAt_25 : decode cX3_standAt 25 = .ok (.aload_n 0, 1) := by decide +kernel
theorem dX3_standAt_26 : decode cX3_standAt 26 = .ok (.iconst (-1), 1) := by decide +kernel
theorem dX3_standAt_27 : decode cX3_standAt 27 = .ok (.putfield 27, 3) := by decide +kernel
theorem dX3_standAt_30 : decode cX3_standAt 30 = .ok (.return_, 1) := by decide +kernel
theorem dX3_tell_0 : decode cX3_tell 0 = .ok (.aload_n 0, 1) := by decide +kernel
theorem dX3_tell_1 : decode cX3_tell 1 = .ok (.iload_n 1, 1) := by decide +kernel
theorem dX3_tell_2 : decode cX3_tell 2 = .ok (.putfield 18, 3) := by decide +kernel
theorem dX3_tell_5 : decode cX3_tell 5 = .ok (.aload_n 0, 1) := by decide +kernel
theorem dX3_tell_6 : decode cX3_tell 6 = .ok (.iload_n 2, 1) := by decide +kernel
theorem dX3_tell_7 : decode cX3_tell 7 = .ok (.putfield 21, 3) := by decide +kernel
theorem dX3_tell_10 : decode cX3_tell 10 = .ok (.aload_n 0, 1) := by decide +kernel
theorem dX3_tell_11 : decode cX3_tell 11 = .ok (.iload_n 3, 1) := by decide +kernel
theorem dX3_tell_12 : decode cX3_tell 12 = .ok (.putfield 24, 3) := by decide +kernel
theorem dX3_tell_15 : decode cX3_tell 15 = .ok (.aload_n 0, 1) := by decide +kernel
theorem dX3_tell_16 : decode cX3_tell 16 = .ok (.iload 4, 2) := by decide +kernel
theorem dX3_tell_18 : decode cX3_tell 18 = .ok (.ifCond .ge 7, 3) := by decide +kernel
theorem dX3_tell_21 : decode cX3_tell 21 = .ok (.iconst (-1), 1) := by decide +kernel
theorem dX3_tell_22 : decode cX3_tell 22 = .ok (.goto 5, 3) := by decide +kernel
theorem dX3_tell_25 : decode cX3_tell 25 = .ok (.iload 4, 2) := by decide +kernel
theorem dX3_tell_27 : decode cX3_tell 27 = .ok (.putfield 27, 3) := by decide +kernel
theorem dX3_tell_30 : decode cX3_tell 30 = .ok (.return_, 1) := by decide +kernel
theorem dX3_tellsSource_0 : decode cX3_tellsSource 0 = .ok (.aload_n 0, 1) := by decide +kernel
theorem dX3_tellsSource_1 : decode cX3_tellsSource 1 = .ok (.getfield 18, 3) := by decide +kernel
theorem dX3_tellsSource_4 : decode cX3_tellsSource 4 = .ok (.ifCond .lt 7, 3) := by decide +kernel
theorem dX3_tellsSource_7 : decode cX3_tellsSource 7 = .ok (.iconst 1, 1) := by decide +kernel
theorem dX3_tellsSource_8 : decode cX3_tellsSource 8 = .ok (.goto 4, 3) := by decide +kernel
theorem dX3_tellsSource_11 : decode cX3_tellsSource 11 = .ok (.iconst 0, 1) := by decide +kernel
theorem dX3_tellsSource_12 : decode cX3_tellsSource 12 = .ok (.ireturn, 1) := by decide +kernel
theorem dX3_tellsName_0 : decode cX3_tellsName 0 = .ok (.aload_n 0, 1) := by decide +kernel
theorem dX3_tellsName_1 : decode cX3_tellsName 1 = .ok (.getfield 27, 3) := by decide +kernel
theorem dX3_tellsName_4 : decode cX3_tellsName 4 = .ok (.ifCond .lt 7, 3) := by decide +kernel
theorem dX3_tellsName_7 : decode cX3_tellsName 7 = .ok (.iconst 1, 1) := by decide +kernel
theorem dX3_tellsName_8 : decode cX3_tellsName 8 = .ok (.goto 4, 3) := by decide +kernel
theorem dX3_tellsName_11 : decode cX3_tellsName 11 = .ok (.iconst 0, 1) := by decide +kernel
theorem dX3_tellsName_12 : decode cX3_tellsName 12 = .ok (.ireturn, 1) := by decide +kernel
theorem dX3_isInBounds_0 : decode cX3_isInBounds 0 = .ok (.aload_n 0, 1) := by decide +kernel
theorem dX3_isInBounds_1 : decode cX3_isInBounds 1 = .ok (.getfield 9, 3) := by decide +kernel
theorem dX3_isInBounds_4 : decode cX3_isInBounds 4 = .ok (.i2l, 1) := by decide +kernel
theorem dX3_isInBounds_5 : decode cX3_isInBounds 5 = .ok (.sipush 199, 3) := by decide +kernel
theorem dX3_isInBounds_8 : decode cX3_isInBounds 8 = .ok (.invokestatic 30, 3) := by decide +kernel
theorem dX3_isInBounds_11 : decode cX3_isInBounds 11 = .ok (.ifCond .eq 16, 3) := by decide +kernel
theorem dX3_isInBounds_14 : decode cX3_isInBounds 14 = .ok (.aload_n 0, 1) := by decide +kernel
theorem dX3_isInBounds_15 : decode cX3_isInBounds 15 = .ok (.getfield 15, 3) := by decide +kernel
theorem dX3_isInBounds_18 : decode cX3_isInBounds 18 = .ok (.i2l, 1) := by decide +kernel
theorem dX3_isInBounds_19 : decode cX3_isInBounds 19 = .ok (.ldc 34, 2) := by decide +kernel
theorem dX3_isInBounds_21 : decode cX3_isInBounds 21 = .ok (.invokestatic 30, 3) := by decide +kernel
theorem dX3_isInBounds_24 : decode cX3_isInBounds 24 = .ok (.ifCond .ne 5, 3) := by decide +kernel
theorem dX3_isInBounds_27 : decode cX3_isInBounds 27 = .ok (.iconst 0, 1) := by decide +kernel
theorem dX3_isInBounds_28 : decode cX3_isInBounds 28 = .ok (.ireturn, 1) := by decide +kernel
theorem dX3_isInBounds_29 : decode cX3_isInBounds 29 = .ok (.aload_n 0, 1) := by decide +kernel
theorem dX3_isInBounds_30 : decode cX3_isInBounds 30 = .ok (.invokevirtual 35, 3) := by decide +kernel
theorem dX3_isInBounds_33 : decode cX3_isInBounds 33 = .ok (.ifCond .eq 47, 3) := by decide +kernel
theorem dX3_isInBounds_36 : decode cX3_isInBounds 36 = .ok (.aload_n 0, 1) := by decide +kernel
theorem dX3_isInBounds_37 : decode cX3_isInBounds 37 = .ok (.getfield 18, 3) := by decide +kernel
theorem dX3_isInBounds_40 : decode cX3_isInBounds 40 = .ok (.bipush 99, 2) := by decide +kernel
theorem dX3_isInBounds_42 : decode cX3_isInBounds 42 = .ok (.if_icmp .gt 42, 3) := by decide +kernel
theorem dX3_isInBounds_45 : decode cX3_isInBounds 45 = .ok (.aload_n 0, 1) := by decide +kernel
theorem dX3_isInBounds_46 : decode cX3_isInBounds 46 = .ok (.getfield 27, 3) := by decide +kernel
theorem dX3_isInBounds_49 : decode cX3_isInBounds 49 = .ok (.bipush 99, 2) := by decide +kernel
theorem dX3_isInBounds_51 : decode cX3_isInBounds 51 = .ok (.if_icmp .gt 33, 3) := by decide +kernel
theorem dX3_isInBounds_54 : decode cX3_isInBounds 54 = .ok (.aload_n 0, 1) := by decide +kernel
theorem dX3_isInBounds_55 : decode cX3_isInBounds 55 = .ok (.getfield 21, 3) := by decide +kernel
theorem dX3_isInBounds_58 : decode cX3_isInBounds 58 = .ok (.i2l, 1) := by decide +kernel
theorem dX3_isInBounds_59 : decode cX3_isInBounds 59 = .ok (.ldc 34, 2) := by decide +kernel
theorem dX3_isInBounds_61 : decode cX3_isInBounds 61 = .ok (.invokestatic 30, 3) := by decide +kernel
theorem dX3_isInBounds_64 : decode cX3_isInBounds 64 = .ok (.ifCond .eq 20, 3) := by decide +kernel
theorem dX3_isInBounds_67 : decode cX3_isInBounds 67 = .ok (.aload_n 0, 1) := by decide +kernel
theorem dX3_isInBounds_68 : decode cX3_isInBounds 68 = .ok (.getfield 24, 3) := by decide +kernel
theorem dX3_isInBounds_71 : decode cX3_isInBounds 71 = .ok (.i2l, 1) := by decide +kernel
theorem dX3_isInBounds_72 : decode cX3_isInBounds 72 = .ok (.ldc 34, 2) := by decide +kernel
theorem dX3_isInBounds_74 : decode cX3_isInBounds 74 = .ok (.invokestatic 30, 3) := by decide +kernel
theorem dX3_isInBounds_77 : decode cX3_isInBounds 77 = .ok (.ifCond .eq 7, 3) := by decide +kernel
theorem dX3_isInBounds_80 : decode cX3_isInBounds 80 = .ok (.iconst 1, 1) := by decide +kernel
theorem dX3_isInBounds_81 : decode cX3_isInBounds 81 = .ok (.goto 4, 3) := by decide +kernel
theorem dX3_isInBounds_84 : decode cX3_isInBounds 84 = .ok (.iconst 0, 1) := by decide +kernel
theorem dX3_isInBounds_85 : decode cX3_isInBounds 85 = .ok (.ireturn, 1) := by decide +kernel
theorem dX4_init_0 : decode cX4_init 0 = .ok (.aload_n 0, 1) := by decide +kernel
theorem dX4_init_1 : decode cX4_init 1 = .ok (.invokespecial 3, 3) := by decide +kernel
theorem dX4_init_4 : decode cX4_init 4 = .ok (.aload_n 0, 1) := by decide +kernel
theorem dX4_init_5 : decode cX4_init 5 = .ok (.sipush 300, 3) := by decide +kernel
theorem dX4_init_8 : decode cX4_init 8 = .ok (.newarray .int, 2) := by decide +kernel
theorem dX4_init_10 : decode cX4_init 10 = .ok (.putfield 9, 3) := by decide +kernel
theorem dX4_init_13 : decode cX4_init 13 = .ok (.aload_n 0, 1) := by decide +kernel
theorem dX4_init_14 : decode cX4_init 14 = .ok (.sipush 300, 3) := by decide +kernel
theorem dX4_init_17 : decode cX4_init 17 = .ok (.newarray .int, 2) := by decide +kernel
theorem dX4_init_19 : decode cX4_init 19 = .ok (.putfield 15, 3) := by decide +kernel
theorem dX4_init_22 : decode cX4_init 22 = .ok (.aload_n 0, 1) := by decide +kernel
theorem dX4_init_23 : decode cX4_init 23 = .ok (.sipush 300, 3) := by decide +kernel
theorem dX4_init_26 : decode cX4_init 26 = .ok (.newarray .int, 2) := by decide +kernel
theorem dX4_init_28 : decode cX4_init 28 = .ok (.putfield 18, 3) := by decide +kernel
theorem dX4_init_31 : decode cX4_init 31 = .ok (.aload_n 0, 1) := by decide +kernel
theorem dX4_init_32 : decode cX4_init 32 = .ok (.sipush 300, 3) := by decide +kernel
theorem dX4_init_35 : decode cX4_init 35 = .ok (.newarray .int, 2) := by decide +kernel
theorem dX4_init_37 : decode cX4_init 37 = .ok (.putfield 21, 3) := by decide +kernel
theorem dX4_init_40 : decode cX4_init 40 = .ok (.aload_n 0, 1) := by decide +kernel
theorem dX4_init_41 : decode cX4_init 41 = .ok (.sipush 300, 3) := by decide +kernel
theorem dX4_init_44 : decode cX4_init 44 = .ok (.newarray .int, 2) := by decide +kernel
theorem dX4_init_46 : decode cX4_init 46 = .ok (.putfield 24, 3) := by decide +kernel
theorem dX4_init_49 : decode cX4_init 49 = .ok (.aload_n 0, 1) := by decide +kernel
theorem dX4_init_50 : decode cX4_init 50 = .ok (.sipush 300, 3) := by decide +kernel
theorem dX4_init_53 : decode cX4_init 53 = .ok (.newarray .int, 2) := by decide +kernel
theorem dX4_init_55 : decode cX4_init 55 = .ok (.putfield 27, 3) := by decide +kernel
theorem dX4_init_58 : decode cX4_init 58 = .ok (.return_, 1) := by decide +kernel
theorem dX4_isFull_0 : decode cX4_isFull 0 = .ok (.aload_n 0, 1) := by decide +kernel
theorem dX4_isFull_1 : decode cX4_isFull 1 = .ok (.getfield 30, 3) := by decide +kernel
theorem dX4_isFull_4 : decode cX4_isFull 4 = .ok (.sipush 300, 3) := by decide +kernel
theorem dX4_isFull_7 : decode cX4_isFull 7 = .ok (.if_icmp .lt 7, 3) := by decide +kernel
theorem dX4_isFull_10 : decode cX4_isFull 10 = .ok (.iconst 1, 1) := by decide +kernel
theorem dX4_isFull_11 : decode cX4_isFull 11 = .ok (.goto 4, 3) := by decide +kernel
theorem dX4_isFull_14 : decode cX4_isFull 14 = .ok (.iconst 0, 1) := by decide +kernel
theorem dX4_isFull_15 : decode cX4_isFull 15 = .ok (.ireturn, 1) := by decide +kernel
theorem dX4_tells_0 : decode cX4_tells 0 = .ok (.aload_n 0, 1) := by decide +kernel
theorem dX4_tells_1 : decode cX4_tells 1 = .ok (.getfield 18, 3) := by decide +kernel
theorem dX4_tells_4 : decode cX4_tells 4 = .ok (.iload_n 1, 1) := by decide +kernel
theorem dX4_tells_5 : decode cX4_tells 5 = .ok (.iaload, 1) := by decide +kernel
theorem dX4_tells_6 : decode cX4_tells 6 = .ok (.ifCond .lt 7, 3) := by decide +kernel
theorem dX4_tells_9 : decode cX4_tells 9 = .ok (.iconst 1, 1) := by decide +kernel
theorem dX4_tells_10 : decode cX4_tells 10 = .ok (.goto 4, 3) := by decide +kernel
theorem dX4_tells_13 : decode cX4_tells 13 = .ok (.iconst 0, 1) := by decide +kernel
theorem dX4_tells_14 : decode cX4_tells 14 = .ok (.ireturn, 1) := by decide +kernel
theorem dX4_insert_0 : decode cX4_insert 0 = .ok (.aload_n 0, 1) := by decide +kernel
theorem dX4_insert_1 : decode cX4_insert 1 = .ok (.invokevirtual 34, 3) := by decide +kernel
theorem dX4_insert_4 : decode cX4_insert 4 = .ok (.ifCond .eq 4, 3) := by decide +kernel
theorem dX4_insert_7 : decode cX4_insert 7 = .ok (.return_, 1) := by decide +kernel
theorem dX4_insert_8 : decode cX4_insert 8 = .ok (.aload_n 0, 1) := by decide +kernel
theorem dX4_insert_9 : decode cX4_insert 9 = .ok (.getfield 30, 3) := by decide +kernel
theorem dX4_insert_12 : decode cX4_insert 12 = .ok (.istore_n 2, 1) := by decide +kernel
theorem dX4_insert_13 : decode cX4_insert 13 = .ok (.iload_n 2, 1) := by decide +kernel
theorem dX4_insert_14 : decode cX4_insert 14 = .ok (.ifCond .le 20, 3) := by decide +kernel
theorem dX4_insert_17 : decode cX4_insert 17 = .ok (.aload_n 0, 1) := by decide +kernel
theorem dX4_insert_18 : decode cX4_insert 18 = .ok (.iload_n 2, 1) := by decide +kernel
theorem dX4_insert_19 : decode cX4_insert 19 = .ok (.iconst 1, 1) := by decide +kernel
theorem dX4_insert_20 : decode cX4_insert 20 = .ok (.isub, 1) := by decide +kernel
theorem dX4_insert_21 : decode cX4_insert 21 = .ok (.aload_n 1, 1) := by decide +kernel
theorem dX4_insert_22 : decode cX4_insert 22 = .ok (.invokevirtual 38, 3) := by decide +kernel
theorem dX4_insert_25 : decode cX4_insert 25 = .ok (.ifCond .eq 9, 3) := by decide +kernel
theorem dX4_insert_28 : decode cX4_insert 28 = .ok (.iinc 2 (-1), 3) := by decide +kernel
theorem dX4_insert_31 : decode cX4_insert 31 = .ok (.goto (-18), 3) := by decide +kernel
theorem dX4_insert_34 : decode cX4_insert 34 = .ok (.aload_n 0, 1) := by decide +kernel
theorem dX4_insert_35 : decode cX4_insert 35 = .ok (.iload_n 2, 1) := by decide +kernel
theorem dX4_insert_36 : decode cX4_insert 36 = .ok (.invokevirtual 42, 3) := by decide +kernel
theorem dX4_insert_39 : decode cX4_insert 39 = .ok (.aload_n 0, 1) := by decide +kernel
theorem dX4_insert_40 : decode cX4_insert 40 = .ok (.getfield 9, 3) := by decide +kernel
theorem dX4_insert_43 : decode cX4_insert 43 = .ok (.iload_n 2, 1) := by decide +kernel
theorem dX4_insert_44 : decode cX4_insert 44 = .ok (.aload_n 1, 1) := by decide +kernel
theorem dX4_insert_45 : decode cX4_insert 45 = .ok (.getfield 46, 3) := by decide +kernel
theorem dX4_insert_48 : decode cX4_insert 48 = .ok (.iastore, 1) := by decide +kernel
theorem dX4_insert_49 : decode cX4_insert 49 = .ok (.aload_n 0, 1) := by decide +kernel
theorem dX4_insert_50 : decode cX4_insert 50 = .ok (.getfield 15, 3) := by decide +kernel
theorem dX4_insert_53 : decode cX4_insert 53 = .ok (.iload_n 2, 1) := by decide +kernel
theorem dX4_insert_54 : decode cX4_insert 54 = .ok (.aload_n 1, 1) := by decide +kernel
theorem dX4_insert_55 : decode cX4_insert 55 = .ok (.getfield 51, 3) := by decide +kernel
theorem dX4_insert_58 : decode cX4_insert 58 = .ok (.iastore, 1) := by decide +kernel
theorem dX4_insert_59 : decode cX4_insert 59 = .ok (.aload_n 0, 1) := by decide +kernel
theorem dX4_insert_60 : decode cX4_insert 60 = .ok (.getfield 18, 3) := by decide +kernel
theorem dX4_insert_63 : decode cX4_insert 63 = .ok (.iload_n 2, 1) := by decide +kernel
theorem dX4_insert_64 : decode cX4_insert 64 = .ok (.aload_n 1, 1) := by decide +kernel
theorem dX4_insert_65 : decode cX4_insert 65 = .ok (.getfield 54, 3) := by decide +kernel
theorem dX4_insert_68 : decode cX4_insert 68 = .ok (.iastore, 1) := by decide +kernel
theorem dX4_insert_69 : decode cX4_insert 69 = .ok (.aload_n 0, 1) := by decide +kernel
theorem dX4_insert_70 : decode cX4_insert 70 = .ok (.getfield 21, 3) := by decide +kernel
theorem dX4_insert_73 : decode cX4_insert 73 = .ok (.iload_n 2, 1) := by decide +kernel
theorem dX4_insert_74 : decode cX4_insert 74 = .ok (.aload_n 1, 1) := by decide +kernel
theorem dX4_insert_75 : decode cX4_insert 75 = .ok (.getfield 57, 3) := by decide +kernel
theorem dX4_insert_78 : decode cX4_insert 78 = .ok (.iastore, 1) := by decide +kernel
theorem dX4_insert_79 : decode cX4_insert 79 = .ok (.aload_n 0, 1) := by decide +kernel
theorem dX4_insert_80 : decode cX4_insert 80 = .ok (.getfield 24, 3) := by decide +kernel
theorem dX4_insert_83 : decode cX4_insert 83 = .ok (.iload_n 2, 1) := by decide +kernel
theorem dX4_insert_84 : decode cX4_insert 84 = .ok (.aload_n 1, 1) := by decide +kernel
theorem dX4_insert_85 : decode cX4_insert 85 = .ok (.getfield 60, 3) := by decide +kernel
theorem dX4_insert_88 : decode cX4_insert 88 = .ok (.iastore, 1) := by decide +kernel
theorem dX4_insert_89 : decode cX4_insert 89 = .ok (.aload_n 0, 1) := by decide +kernel
theorem dX4_insert_90 : decode cX4_insert 90 = .ok (.getfield 27, 3) := by decide +kernel
theorem dX4_insert_93 : decode cX4_insert 93 = .ok (.iload_n 2, 1) := by decide +kernel
theorem dX4_insert_94 : decode cX4_insert 94 = .ok (.aload_n 1, 1) := by decide +kernel
theorem dX4_insert_95 : decode cX4_insert 95 = .ok (.getfield 63, 3) := by decide +kernel
theorem dX4_insert_98 : decode cX4_insert 98 = .ok (.iastore, 1) := by decide +kernel
theorem dX4_insert_99 : decode cX4_insert 99 = .ok (.aload_n 0, 1) := by decide +kernel
theorem dX4_insert_100 : decode cX4_insert 100 = .ok (.dup, 1) := by decide +kernel
theorem dX4_insert_101 : decode cX4_insert 101 = .ok (.getfield 30, 3) := by decide +kernel
theorem dX4_insert_104 : decode cX4_insert 104 = .ok (.iconst 1, 1) := by decide +kernel
theorem dX4_insert_105 : decode cX4_insert 105 = .ok (.iadd, 1) := by decide +kernel
theorem dX4_insert_106 : decode cX4_insert 106 = .ok (.putfield 30, 3) := by decide +kernel
theorem dX4_insert_109 : decode cX4_insert 109 = .ok (.return_, 1) := by decide +kernel
theorem dX4_isBeyond_0 : decode cX4_isBeyond 0 = .ok (.aload_n 0, 1) := by decide +kernel
theorem dX4_isBeyond_1 : decode cX4_isBeyond 1 = .ok (.getfield 9, 3) := by decide +kernel
theorem dX4_isBeyond_4 : decode cX4_isBeyond 4 = .ok (.iload_n 1, 1) := by decide +kernel
theorem dX4_isBeyond_5 : decode cX4_isBeyond 5 = .ok (.iaload, 1) := by decide +kernel
theorem dX4_isBeyond_6 : decode cX4_isBeyond 6 = .ok (.aload_n 2, 1) := by decide +kernel
theorem dX4_isBeyond_7 : decode cX4_isBeyond 7 = .ok (.getfield 46, 3) := by decide +kernel
theorem dX4_isBeyond_10 : decode cX4_isBeyond 10 = .ok (.if_icmp .gt 29, 3) := by decide +kernel
theorem dX4_isBeyond_13 : decode cX4_isBeyond 13 = .ok (.aload_n 0, 1) := by decide +kernel
theorem dX4_isBeyond_14 : decode cX4_isBeyond 14 = .ok (.getfield 9, 3) := by decide +kernel
theorem dX4_isBeyond_17 : decode cX4_isBeyond 17 = .ok (.iload_n 1, 1) := by decide +kernel
theorem dX4_isBeyond_18 : decode cX4_isBeyond 18 = .ok (.iaload, 1) := by decide +kernel
theorem dX4_isBeyond_19 : decode cX4_isBeyond 19 = .ok (.aload_n 2, 1) := by decide +kernel
theorem dX4_isBeyond_20 : decode cX4_isBeyond 20 = .ok (.getfield 46, 3) := by decide +kernel
theorem dX4_isBeyond_23 : decode cX4_isBeyond 23 = .ok (.if_icmp .ne 20, 3) := by decide +kernel
theorem dX4_isBeyond_26 : decode cX4_isBeyond 26 = .ok (.aload_n 0, 1) := by decide +kernel
theorem dX4_isBeyond_27 : decode cX4_isBeyond 27 = .ok (.getfield 15, 3) := by decide +kernel
theorem dX4_isBeyond_30 : decode cX4_isBeyond 30 = .ok (.iload_n 1, 1) := by decide +kernel
theorem dX4_isBeyond_31 : decode cX4_isBeyond 31 = .ok (.iaload, 1) := by decide +kernel
theorem dX4_isBeyond_32 : decode cX4_isBeyond 32 = .ok (.aload_n 2, 1) := by decide +kernel
theorem dX4_isBeyond_33 : decode cX4_isBeyond 33 = .ok (.getfield 51, 3) := by decide +kernel
theorem dX4_isBeyond_36 : decode cX4_isBeyond 36 = .ok (.if_icmp .le 7, 3) := by decide +kernel
theorem dX4_isBeyond_39 : decode cX4_isBeyond 39 = .ok (.iconst 1, 1) := by decide +kernel
theorem dX4_isBeyond_40 : decode cX4_isBeyond 40 = .ok (.goto 4, 3) := by decide +kernel
theorem dX4_isBeyond_43 : decode cX4_isBeyond 43 = .ok (.iconst 0, 1) := by decide +kernel
theorem dX4_isBeyond_44 : decode cX4_isBeyond 44 = .ok (.ireturn, 1) := by decide +kernel
theorem dX4_makeGap_0 : decode cX4_makeGap 0 = .ok (.aload_n 0, 1) := by decide +kernel
theorem dX4_makeGap_1 : decode cX4_makeGap 1 = .ok (.getfield 30, 3) := by decide +kernel
theorem dX4_makeGap_4 : decode cX4_makeGap 4 = .ok (.iload_n 1, 1) := by decide +kernel
theorem dX4_makeGap_5 : decode cX4_makeGap 5 = .ok (.isub, 1) := by decide +kernel
theorem dX4_makeGap_6 : decode cX4_makeGap 6 = .ok (.istore_n 2, 1) := by decide +kernel
theorem dX4_makeGap_7 : decode cX4_makeGap 7 = .ok (.aload_n 0, 1) := by decide +kernel
theorem dX4_makeGap_8 : decode cX4_makeGap 8 = .ok (.getfield 9, 3) := by decide +kernel
theorem dX4_makeGap_11 : decode cX4_makeGap 11 = .ok (.iload_n 1, 1) := by decide +kernel
theorem dX4_makeGap_12 : decode cX4_makeGap 12 = .ok (.aload_n 0, 1) := by decide +kernel
theorem dX4_makeGap_13 : decode cX4_makeGap 13 = .ok (.getfield 9, 3) := by decide +kernel
theorem dX4_makeGap_16 : decode cX4_makeGap 16 = .ok (.iload_n 1, 1) := by decide +kernel
theorem dX4_makeGap_17 : decode cX4_makeGap 17 = .ok (.iconst 1, 1) := by decide +kernel
theorem dX4_makeGap_18 : decode cX4_makeGap 18 = .ok (.iadd, 1) := by decide +kernel
theorem dX4_makeGap_19 : decode cX4_makeGap 19 = .ok (.iload_n 2, 1) := by decide +kernel
theorem dX4_makeGap_20 : decode cX4_makeGap 20 = .ok (.invokestatic 66, 3) := by decide +kernel
theorem dX4_makeGap_23 : decode cX4_makeGap 23 = .ok (.aload_n 0, 1) := by decide +kernel
theorem dX4_makeGap_24 : decode cX4_makeGap 24 = .ok (.getfield 15, 3) := by decide +kernel
theorem dX4_makeGap_27 : decode cX4_makeGap 27 = .ok (.iload_n 1, 1) := by decide +kernel
theorem dX4_makeGap_28 : decode cX4_makeGap 28 = .ok (.aload_n 0, 1) := by decide +kernel
theorem dX4_makeGap_29 : decode cX4_makeGap 29 = .ok (.getfield 15, 3) := by decide +kernel
theorem dX4_makeGap_32 : decode cX4_makeGap 32 = .ok (.iload_n 1, 1) := by decide +kernel
theorem dX4_makeGap_33 : decode cX4_makeGap 33 = .ok (.iconst 1, 1) := by decide +kernel
theorem dX4_makeGap_34 : decode cX4_makeGap 34 = .ok (.iadd, 1) := by decide +kernel
theorem dX4_makeGap_35 : decode cX4_makeGap 35 = .ok (.iload_n 2, 1) := by decide +kernel
theorem dX4_makeGap_36 : decode cX4_makeGap 36 = .ok (.invokestatic 66, 3) := by decide +kernel
theorem dX4_makeGap_39 : decode cX4_makeGap 39 = .ok (.aload_n 0, 1) := by decide +kernel
theorem dX4_makeGap_40 : decode cX4_makeGap 40 = .ok (.getfield 18, 3) := by decide +kernel
theorem dX4_makeGap_43 : decode cX4_makeGap 43 = .ok (.iload_n 1, 1) := by decide +kernel
theorem dX4_makeGap_44 : decode cX4_makeGap 44 = .ok (.aload_n 0, 1) := by decide +kernel
theorem dX4_makeGap_45 : decode cX4_makeGap 45 = .ok (.getfield 18, 3) := by decide +kernel
theorem dX4_makeGap_48 : decode cX4_makeGap 48 = .ok (.iload_n 1, 1) := by decide +kernel
theorem dX4_makeGap_49 : decode cX4_makeGap 49 = .ok (.iconst 1, 1) := by decide +kernel
theorem dX4_makeGap_50 : decode cX4_makeGap 50 = .ok (.iadd, 1) := by decide +kernel
theorem dX4_makeGap_51 : decode cX4_makeGap 51 = .ok (.iload_n 2, 1) := by decide +kernel
theorem dX4_makeGap_52 : decode cX4_makeGap 52 = .ok (.invokestatic 66, 3) := by decide +kernel
theorem dX4_makeGap_55 : decode cX4_makeGap 55 = .ok (.aload_n 0, 1) := by decide +kernel
theorem dX4_makeGap_56 : decode cX4_makeGap 56 = .ok (.getfield 21, 3) := by decide +kernel
theorem dX4_makeGap_59 : decode cX4_makeGap 59 = .ok (.iload_n 1, 1) := by decide +kernel
theorem dX4_makeGap_60 : decode cX4_makeGap 60 = .ok (.aload_n 0, 1) := by decide +kernel
theorem dX4_makeGap_61 : decode cX4_makeGap 61 = .ok (.getfield 21, 3) := by decide +kernel
theorem dX4_makeGap_64 : decode cX4_makeGap 64 = .ok (.iload_n 1, 1) := by decide +kernel
theorem dX4_makeGap_65 : decode cX4_makeGap 65 = .ok (.iconst 1, 1) := by decide +kernel
theorem dX4_makeGap_66 : decode cX4_makeGap 66 = .ok (.iadd, 1) := by decide +kernel
theorem dX4_makeGap_67 : decode cX4_makeGap 67 = .ok (.iload_n 2, 1) := by decide +kernel
theorem dX4_makeGap_68 : decode cX4_makeGap 68 = .ok (.invokestatic 66, 3) := by decide +kernel
theorem dX4_makeGap_71 : decode cX4_makeGap 71 = .ok (.aload_n 0, 1) := by decide +kernel
theorem dX4_makeGap_72 : decode cX4_makeGap 72 = .ok (.getfield 24, 3) := by decide +kernel
theorem dX4_makeGap_75 : decode cX4_makeGap 75 = .ok (.iload_n 1, 1) := by decide +kernel
theorem dX4_makeGap_76 : decode cX4_makeGap 76 = .ok (.aload_n 0, 1) := by decide +kernel
theorem dX4_makeGap_77 : decode cX4_makeGap 77 = .ok (.getfield 24, 3) := by decide +kernel
theorem dX4_makeGap_80 : decode cX4_makeGap 80 = .ok (.iload_n 1, 1) := by decide +kernel
theorem dX4_makeGap_81 : decode cX4_makeGap 81 = .ok (.iconst 1, 1) := by decide +kernel
theorem dX4_makeGap_82 : decode cX4_makeGap 82 = .ok (.iadd, 1) := by decide +kernel
theorem dX4_makeGap_83 : decode cX4_makeGap 83 = .ok (.iload_n 2, 1) := by decide +kernel
theorem dX4_makeGap_84 : decode cX4_makeGap 84 = .ok (.invokestatic 66, 3) := by decide +kernel
theorem dX4_makeGap_87 : decode cX4_makeGap 87 = .ok (.aload_n 0, 1) := by decide +kernel
theorem dX4_makeGap_88 : decode cX4_makeGap 88 = .ok (.getfield 27, 3) := by decide +kernel
theorem dX4_makeGap_91 : decode cX4_makeGap 91 = .ok (.iload_n 1, 1) := by decide +kernel
theorem dX4_makeGap_92 : decode cX4_makeGap 92 = .ok (.aload_n 0, 1) := by decide +kernel
theorem dX4_makeGap_93 : decode cX4_makeGap 93 = .ok (.getfield 27, 3) := by decide +kernel
theorem dX4_makeGap_96 : decode cX4_makeGap 96 = .ok (.iload_n 1, 1) := by decide +kernel
theorem dX4_makeGap_97 : decode cX4_makeGap 97 = .ok (.iconst 1, 1) := by decide +kernel
theorem dX4_makeGap_98 : decode cX4_makeGap 98 = .ok (.iadd, 1) := by decide +kernel
theorem dX4_makeGap_99 : decode cX4_makeGap 99 = .ok (.iload_n 2, 1) := by decide +kernel
theorem dX4_makeGap_100 : decode cX4_makeGap 100 = .ok (.invokestatic 66, 3) := by decide +kernel
theorem dX4_makeGap_103 : decode cX4_makeGap 103 = .ok (.return_, 1) := by decide +kernel
theorem dX4_copyTo_0 : decode cX4_copyTo 0 = .ok (.aload_n 2, 1) := by decide +kernel
theorem dX4_copyTo_1 : decode cX4_copyTo 1 = .ok (.aload_n 0, 1) := by decide +kernel
theorem dX4_copyTo_2 : decode cX4_copyTo 2 = .ok (.getfield 9, 3) := by decide +kernel
theorem dX4_copyTo_5 : decode cX4_copyTo 5 = .ok (.iload_n 1, 1) := by decide +kernel
theorem dX4_copyTo_6 : decode cX4_copyTo 6 = .ok (.iaload, 1) := by decide +kernel
theorem dX4_copyTo_7 : decode cX4_copyTo 7 = .ok (.aload_n 0, 1) := by decide +kernel
theorem dX4_copyTo_8 : decode cX4_copyTo 8 = .ok (.getfield 15, 3) := by decide +kernel
theorem dX4_copyTo_11 : decode cX4_copyTo 11 = .ok (.iload_n 1, 1) := by decide +kernel
theorem dX4_copyTo_12 : decode cX4_copyTo 12 = .ok (.iaload, 1) := by decide +kernel
theorem dX4_copyTo_13 : decode cX4_copyTo 13 = .ok (.invokevirtual 72, 3) := by decide +kernel
theorem dX4_copyTo_16 : decode cX4_copyTo 16 = .ok (.aload_n 0, 1) := by decide +kernel
theorem dX4_copyTo_17 : decode cX4_copyTo 17 = .ok (.iload_n 1, 1) := by decide +kernel
theorem dX4_copyTo_18 : decode cX4_copyTo 18 = .ok (.invokevirtual 76, 3) := by decide +kernel
theorem dX4_copyTo_21 : decode cX4_copyTo 21 = .ok (.ifCond .eq 31, 3) := by decide +kernel
theorem dX4_copyTo_24 : decode cX4_copyTo 24 = .ok (.aload_n 2, 1) := by decide +kernel
theorem dX4_copyTo_25 : decode cX4_copyTo 25 = .ok (.aload_n 0, 1) := by decide +kernel
theorem dX4_copyTo_26 : decode cX4_copyTo 26 = .ok (.getfield 18, 3) := by decide +kernel
theorem dX4_copyTo_29 : decode cX4_copyTo 29 = .ok (.iload_n 1, 1) := by decide +kernel
theorem dX4_copyTo_30 : decode cX4_copyTo 30 = .ok (.iaload, 1) := by decide +kernel
theorem dX4_copyTo_31 : decode cX4_copyTo 31 = .ok (.aload_n 0, 1) := by decide +kernel
theorem dX4_copyTo_32 : decode cX4_copyTo 32 = .ok (.getfield 21, 3) := by decide +kernel
theorem dX4_copyTo_35 : decode cX4_copyTo 35 = .ok (.iload_n 1, 1) := by decide +kernel
theorem dX4_copyTo_36 : decode cX4_copyTo 36 = .ok (.iaload, 1) := by decide +kernel
theorem dX4_copyTo_37 : decode cX4_copyTo 37 = .ok (.aload_n 0, 1) := by decide +kernel
theorem dX4_copyTo_38 : decode cX4_copyTo 38 = .ok (.getfield 24, 3) := by decide +kernel
theorem dX4_copyTo_41 : decode cX4_copyTo 41 = .ok (.iload_n 1, 1) := by decide +kernel
theorem dX4_copyTo_42 : decode cX4_copyTo 42 = .ok (.iaload, 1) := by decide +kernel
theorem dX4_copyTo_43 : decode cX4_copyTo 43 = .ok (.aload_n 0, 1) := by decide +kernel
theorem dX4_copyTo_44 : decode cX4_copyTo 44 = .ok (.getfield 27, 3) := by decide +kernel
theorem dX4_copyTo_47 : decode cX4_copyTo 47 = .ok (.iload_n 1, 1) := by decide +kernel
theorem dX4_copyTo_48 : decode cX4_copyTo 48 = .ok (.iaload, 1) := by decide +kernel
theorem dX4_copyTo_49 : decode cX4_copyTo 49 = .ok (.invokevirtual 80, 3) := by decide +kernel
theorem dX4_copyTo_52 : decode cX4_copyTo 52 = .ok (.return_, 1) := by decide +kernel
theorem dX4_findTelling_0 : decode cX4_findTelling 0 = .ok (.aload_n 0, 1) := by decide +kernel
theorem dX4_findTelling_1 : decode cX4_findTelling 1 = .ok (.getfield 30, 3) := by decide +kernel
theorem dX4_findTelling_4 : decode cX4_findTelling 4 = .ok (.iconst 1, 1) := by decide +kernel
theorem dX4_findTelling_5 : decode cX4_findTelling 5 = .ok (.isub, 1) := by decide +kernel
theorem dX4_findTelling_6 : decode cX4_findTelling 6 = .ok (.istore_n 3, 1) := by decide +kernel
theorem dX4_findTelling_7 : decode cX4_findTelling 7 = .ok (.iload_n 3, 1) := by decide +kernel
theorem dX4_findTelling_8 : decode cX4_findTelling 8 = .ok (.ifCond .lt 43, 3) := by decide +kernel
theorem dX4_findTelling_11 : decode cX4_findTelling 11 = .ok (.aload_n 0, 1) := by decide +kernel
theorem dX4_findTelling_12 : decode cX4_findTelling 12 = .ok (.getfield 9, 3) := by decide +kernel
theorem dX4_findTelling_15 : decode cX4_findTelling 15 = .ok (.iload_n 3, 1) := by decide +kernel
theorem dX4_findTelling_16 : decode cX4_findTelling 16 = .ok (.iaload, 1) := by decide +kernel
theorem dX4_findTelling_17 : decode cX4_findTelling 17 = .ok (.iload_n 1, 1) := by decide +kernel
theorem dX4_findTelling_18 : decode cX4_findTelling 18 = .ok (.if_icmp .ne 27, 3) := by decide +kernel
theorem dX4_findTelling_21 : decode cX4_findTelling 21 = .ok (.aload_n 0, 1) := by decide +kernel
theorem dX4_findTelling_22 : decode cX4_findTelling 22 = .ok (.getfield 15, 3) := by decide +kernel
theorem dX4_findTelling_25 : decode cX4_findTelling 25 = .ok (.iload_n 3, 1) := by decide +kernel
theorem dX4_findTelling_26 : decode cX4_findTelling 26 = .ok (.iaload, 1) := by decide +kernel
theorem dX4_findTelling_27 : decode cX4_findTelling 27 = .ok (.iload_n 2, 1) := by decide +kernel
theorem dX4_findTelling_28 : decode cX4_findTelling 28 = .ok (.if_icmp .gt 17, 3) := by decide +kernel
theorem dX4_findTelling_31 : decode cX4_findTelling 31 = .ok (.aload_n 0, 1) := by decide +kernel
theorem dX4_findTelling_32 : decode cX4_findTelling 32 = .ok (.iload_n 3, 1) := by decide +kernel
theorem dX4_findTelling_33 : decode cX4_findTelling 33 = .ok (.invokevirtual 76, 3) := by decide +kernel
theorem dX4_findTelling_36 : decode cX4_findTelling 36 = .ok (.ifCond .eq 7, 3) := by decide +kernel
theorem dX4_findTelling_39 : decode cX4_findTelling 39 = .ok (.iload_n 3, 1) := by decide +kernel
theorem dX4_findTelling_40 : decode cX4_findTelling 40 = .ok (.goto 4, 3) := by decide +kernel
theorem dX4_findTelling_43 : decode cX4_findTelling 43 = .ok (.iconst (-1), 1) := by decide +kernel
theorem dX4_findTelling_44 : decode cX4_findTelling 44 = .ok (.ireturn, 1) := by decide +kernel
theorem dX4_findTelling_45 : decode cX4_findTelling 45 = .ok (.iinc 3 (-1), 3) := by decide +kernel
theorem dX4_findTelling_48 : decode cX4_findTelling 48 = .ok (.goto (-41), 3) := by decide +kernel
theorem dX4_findTelling_51 : decode cX4_findTelling 51 = .ok (.iconst (-1), 1) := by decide +kernel
theorem dX4_findTelling_52 : decode cX4_findTelling 52 = .ok (.ireturn, 1) := by decide +kernel
theorem dX4_tellNothing_0 : decode cX4_tellNothing 0 = .ok (.aload_n 0, 1) := by decide +kernel
theorem dX4_tellNothing_1 : decode cX4_tellNothing 1 = .ok (.getfield 18, 3) := by decide +kernel
theorem dX4_tellNothing_4 : decode cX4_tellNothing 4 = .ok (.iload_n 1, 1) := by decide +kernel
theorem dX4_tellNothing_5 : decode cX4_tellNothing 5 = .ok (.iconst (-1), 1) := by decide +kernel
theorem dX4_tellNothing_6 : decode cX4_tellNothing 6 = .ok (.iastore, 1) := by decide +kernel
theorem dX4_tellNothing_7 : decode cX4_tellNothing 7 = .ok (.aload_n 0, 1) := by decide +kernel
theorem dX4_tellNothing_8 : decode cX4_tellNothing 8 = .ok (.getfield 21, 3) := by decide +kernel
theorem dX4_tellNothing_11 : decode cX4_tellNothing 11 = .ok (.iload_n 1, 1) := by decide +kernel
theorem dX4_tellNothing_12 : decode cX4_tellNothing 12 = .ok (.iconst (-1), 1) := by decide +kernel
theorem dX4_tellNothing_13 : decode cX4_tellNothing 13 = .ok (.iastore, 1) := by decide +kernel
theorem dX4_tellNothing_14 : decode cX4_tellNothing 14 = .ok (.aload_n 0, 1) := by decide +kernel
theorem dX4_tellNothing_15 : decode cX4_tellNothing 15 = .ok (.getfield 24, 3) := by decide +kernel
theorem dX4_tellNothing_18 : decode cX4_tellNothing 18 = .ok (.iload_n 1, 1) := by decide +kernel
theorem dX4_tellNothing_19 : decode cX4_tellNothing 19 = .ok (.iconst (-1), 1) := by decide +kernel
theorem dX4_tellNothing_20 : decode cX4_tellNothing 20 = .ok (.iastore, 1) := by decide +kernel
theorem dX4_tellNothing_21 : decode cX4_tellNothing 21 = .ok (.aload_n 0, 1) := by decide +kernel
theorem dX4_tellNothing_22 : decode cX4_tellNothing 22 = .ok (.getfield 27, 3) := by decide +kernel
theorem dX4_tellNothing_25 : decode cX4_tellNothing 25 = .ok (.iload_n 1, 1) := by decide +kernel
theorem dX4_tellNothing_26 : decode cX4_tellNothing 26 = .ok (.iconst (-1), 1) := by decide +kernel
theorem dX4_tellNothing_27 : decode cX4_tellNothing 27 = .ok (.iastore, 1) := by decide +kernel
theorem dX4_tellNothing_28 : decode cX4_tellNothing 28 = .ok (.return_, 1) := by decide +kernel
theorem dX4_tellAs_0 : decode cX4_tellAs 0 = .ok (.aload_n 0, 1) := by decide +kernel
theorem dX4_tellAs_1 : decode cX4_tellAs 1 = .ok (.getfield 18, 3) := by decide +kernel
theorem dX4_tellAs_4 : decode cX4_tellAs 4 = .ok (.iload_n 1, 1) := by decide +kernel
theorem dX4_tellAs_5 : decode cX4_tellAs 5 = .ok (.aload_n 2, 1) := by decide +kernel
theorem dX4_tellAs_6 : decode cX4_tellAs 6 = .ok (.getfield 18, 3) := by decide +kernel
theorem dX4_tellAs_9 : decode cX4_tellAs 9 = .ok (.iload_n 3, 1) := by decide +kernel
theorem dX4_tellAs_10 : decode cX4_tellAs 10 = .ok (.iaload, 1) := by decide +kernel
theorem dX4_tellAs_11 : decode cX4_tellAs 11 = .ok (.iastore, 1) := by decide +kernel
theorem dX4_tellAs_12 : decode cX4_tellAs 12 = .ok (.aload_n 0, 1) := by decide +kernel
theorem dX4_tellAs_13 : decode cX4_tellAs 13 = .ok (.getfield 21, 3) := by decide +kernel
theorem dX4_tellAs_16 : decode cX4_tellAs 16 = .ok (.iload_n 1, 1) := by decide +kernel
theorem dX4_tellAs_17 : decode cX4_tellAs 17 = .ok (.aload_n 2, 1) := by decide +kernel
theorem dX4_tellAs_18 : decode cX4_tellAs 18 = .ok (.getfield 21, 3) := by decide +kernel
theorem dX4_tellAs_21 : decode cX4_tellAs 21 = .ok (.iload_n 3, 1) := by decide +kernel
theorem dX4_tellAs_22 : decode cX4_tellAs 22 = .ok (.iaload, 1) := by decide +kernel
theorem dX4_tellAs_23 : decode cX4_tellAs 23 = .ok (.iastore, 1) := by decide +kernel
theorem dX4_tellAs_24 : decode cX4_tellAs 24 = .ok (.aload_n 0, 1) := by decide +kernel
theorem dX4_tellAs_25 : decode cX4_tellAs 25 = .ok (.getfield 24, 3) := by decide +kernel
theorem dX4_tellAs_28 : decode cX4_tellAs 28 = .ok (.iload_n 1, 1) := by decide +kernel
theorem dX4_tellAs_29 : decode cX4_tellAs 29 = .ok (.aload_n 2, 1) := by decide +kernel
theorem dX4_tellAs_30 : decode cX4_tellAs 30 = .ok (.getfield 24, 3) := by decide +kernel
theorem dX4_tellAs_33 : decode cX4_tellAs 33 = .ok (.iload_n 3, 1) := by decide +kernel
theorem dX4_tellAs_34 : decode cX4_tellAs 34 = .ok (.iaload, 1) := by decide +kernel
theorem dX4_tellAs_35 : decode cX4_tellAs 35 = .ok (.iastore, 1) := by decide +kernel
theorem dX4_tellAs_36 : decode cX4_tellAs 36 = .ok (.aload_n 0, 1) := by decide +kernel
theorem dX4_tellAs_37 : decode cX4_tellAs 37 = .ok (.getfield 27, 3) := by decide +kernel
theorem dX4_tellAs_40 : decode cX4_tellAs 40 = .ok (.iload_n 1, 1) := by decide +kernel
theorem dX4_tellAs_41 : decode cX4_tellAs 41 = .ok (.iaload, 1) := by decide +kernel
theorem dX4_tellAs_42 : decode cX4_tellAs 42 = .ok (.ifCond .ge 15, 3) := by decide +kernel
theorem dX4_tellAs_45 : decode cX4_tellAs 45 = .ok (.aload_n 0, 1) := by decide +kernel
theorem dX4_tellAs_46 : decode cX4_tellAs 46 = .ok (.getfield 27, 3) := by decide +kernel
theorem dX4_tellAs_49 : decode cX4_tellAs 49 = .ok (.iload_n 1, 1) := by decide +kernel
theorem dX4_tellAs_50 : decode cX4_tellAs 50 = .ok (.aload_n 2, 1) := by decide +kernel
theorem dX4_tellAs_51 : decode cX4_tellAs 51 = .ok (.getfield 27, 3) := by decide +kernel
theorem dX4_tellAs_54 : decode cX4_tellAs 54 = .ok (.iload_n 3, 1) := by decide +kernel
theorem dX4_tellAs_55 : decode cX4_tellAs 55 = .ok (.iaload, 1) := by decide +kernel
theorem dX4_tellAs_56 : decode cX4_tellAs 56 = .ok (.iastore, 1) := by decide +kernel
theorem dX4_tellAs_57 : decode cX4_tellAs 57 = .ok (.return_, 1) := by decide +kernel
theorem dX5_init_0 : decode cX5_init 0 = .ok (.aload_n 0, 1) := by decide +kernel
theorem dX5_init_1 : decode cX5_init 1 = .ok (.invokespecial 3, 3) := by decide +kernel
theorem dX5_init_4 : decode cX5_init 4 = .ok (.aload_n 0, 1) := by decide +kernel
theorem dX5_init_5 : decode cX5_init 5 = .ok (.sipush 3000, 3) := by decide +kernel
theorem dX5_init_8 : decode cX5_init 8 = .ok (.newarray .byte, 2) := by decide +kernel
theorem dX5_init_10 : decode cX5_init 10 = .ok (.putfield 9, 3) := by decide +kernel
theorem dX5_init_13 : decode cX5_init 13 = .ok (.return_, 1) := by decide +kernel
theorem dX5_hasRoomForFive_0 : decode cX5_hasRoomForFive 0 = .ok (.aload_n 0, 1) := by decide +kernel
theorem dX5_hasRoomForFive_1 : decode cX5_hasRoomForFive 1 = .ok (.getfield 15, 3) := by decide +kernel
theorem dX5_hasRoomForFive_4 : decode cX5_hasRoomForFive 4 = .ok (.bipush 20, 2) := by decide +kernel
theorem dX5_hasRoomForFive_6 : decode cX5_hasRoomForFive 6 = .ok (.iadd, 1) := by decide +kernel
theorem dX5_hasRoomForFive_7 : decode cX5_hasRoomForFive 7 = .ok (.sipush 3000, 3) := by decide +kernel
theorem dX5_hasRoomForFive_10 : decode cX5_hasRoomForFive 10 = .ok (.if_icmp .gt 7, 3) := by decide +kernel
theorem dX5_hasRoomForFive_13 : decode cX5_hasRoomForFive 13 = .ok (.iconst 1, 1) := by decide +kernel
theorem dX5_hasRoomForFive_14 : decode cX5_hasRoomForFive 14 = .ok (.goto 4, 3) := by decide +kernel
theorem dX5_hasRoomForFive_17 : decode cX5_hasRoomForFive 17 = .ok (.iconst 0, 1) := by decide +kernel
theorem dX5_hasRoomForFive_18 : decode cX5_hasRoomForFive 18 = .ok (.ireturn, 1) := by decide +kernel
theorem dX5_appendFour_0 : decode cX5_appendFour 0 = .ok (.bipush 24, 2) := by decide +kernel
theorem dX5_appendFour_2 : decode cX5_appendFour 2 = .ok (.istore_n 2, 1) := by decide +kernel
theorem dX5_appendFour_3 : decode cX5_appendFour 3 = .ok (.iload_n 2, 1) := by decide +kernel
theorem dX5_appendFour_4 : decode cX5_appendFour 4 = .ok (.ifCond .lt 42, 3) := by decide +kernel
theorem dX5_appendFour_7 : decode cX5_appendFour 7 = .ok (.aload_n 0, 1) := by decide +kernel
theorem dX5_appendFour_8 : decode cX5_appendFour 8 = .ok (.getfield 15, 3) := by decide +kernel
theorem dX5_appendFour_11 : decode cX5_appendFour 11 = .ok (.sipush 3000, 3) := by decide +kernel
theorem dX5_appendFour_14 : decode cX5_appendFour 14 = .ok (.if_icmp .ge 32, 3) := by decide +kernel
theorem dX5_appendFour_17 : decode cX5_appendFour 17 = .ok (.aload_n 0, 1) := by decide +kernel
theorem dX5_appendFour_18 : decode cX5_appendFour 18 = .ok (.getfield 9, 3) := by decide +kernel
theorem dX5_appendFour_21 : decode cX5_appendFour 21 = .ok (.aload_n 0, 1) := by decide +kernel
theorem dX5_appendFour_22 : decode cX5_appendFour 22 = .ok (.getfield 15, 3) := by decide +kernel
theorem dX5_appendFour_25 : decode cX5_appendFour 25 = .ok (.iload_n 1, 1) := by decide +kernel
theorem dX5_appendFour_26 : decode cX5_appendFour 26 = .ok (.iload_n 2, 1) := by decide +kernel
theorem dX5_appendFour_27 : decode cX5_appendFour 27 = .ok (.iushr, 1) := by decide +kernel
theorem dX5_appendFour_28 : decode cX5_appendFour 28 = .ok (.i2b, 1) := by decide +kernel
theorem dX5_appendFour_29 : decode cX5_appendFour 29 = .ok (.bastore, 1) := by decide +kernel
theorem dX5_appendFour_30 : decode cX5_appendFour 30 = .ok (.aload_n 0, 1) := by decide +kernel
theorem dX5_appendFour_31 : decode cX5_appendFour 31 = .ok (.dup, 1) := by decide +kernel
theorem dX5_appendFour_32 : decode cX5_appendFour 32 = .ok (.getfield 15, 3) := by decide +kernel
theorem dX5_appendFour_35 : decode cX5_appendFour 35 = .ok (.iconst 1, 1) := by decide +kernel
theorem dX5_appendFour_36 : decode cX5_appendFour 36 = .ok (.iadd, 1) := by decide +kernel
theorem dX5_appendFour_37 : decode cX5_appendFour 37 = .ok (.putfield 15, 3) := by decide +kernel
theorem dX5_appendFour_40 : decode cX5_appendFour 40 = .ok (.iinc 2 (-8), 3) := by decide +kernel
theorem dX5_appendFour_43 : decode cX5_appendFour 43 = .ok (.goto (-40), 3) := by decide +kernel
theorem dX5_appendFour_46 : decode cX5_appendFour 46 = .ok (.return_, 1) := by decide +kernel
theorem dX5_characterAt_0 : decode cX5_characterAt 0 = .ok (.aload_n 0, 1) := by decide +kernel
theorem dX5_characterAt_1 : decode cX5_characterAt 1 = .ok (.getfield 9, 3) := by decide +kernel
theorem dX5_characterAt_4 : decode cX5_characterAt 4 = .ok (.iload_n 1, 1) := by decide +kernel
theorem dX5_characterAt_5 : decode cX5_characterAt 5 = .ok (.baload, 1) := by decide +kernel
theorem dX5_characterAt_6 : decode cX5_characterAt 6 = .ok (.sipush 255, 3) := by decide +kernel
theorem dX5_characterAt_9 : decode cX5_characterAt 9 = .ok (.iand, 1) := by decide +kernel
theorem dX5_characterAt_10 : decode cX5_characterAt 10 = .ok (.i2c, 1) := by decide +kernel
theorem dX5_characterAt_11 : decode cX5_characterAt 11 = .ok (.ireturn, 1) := by decide +kernel
theorem dX6_init_0 : decode cX6_init 0 = .ok (.aload_n 0, 1) := by decide +kernel
theorem dX6_init_1 : decode cX6_init 1 = .ok (.invokespecial 3, 3) := by decide +kernel
theorem dX6_init_4 : decode cX6_init 4 = .ok (.aload_n 0, 1) := by decide +kernel
theorem dX6_init_5 : decode cX6_init 5 = .ok (.sipush 6000, 3) := by decide +kernel
theorem dX6_init_8 : decode cX6_init 8 = .ok (.newarray .char, 2) := by decide +kernel
theorem dX6_init_10 : decode cX6_init 10 = .ok (.putfield 9, 3) := by decide +kernel
theorem dX6_init_13 : decode cX6_init 13 = .ok (.return_, 1) := by decide +kernel
theorem dX6_makeEmpty_0 : decode cX6_makeEmpty 0 = .ok (.aload_n 0, 1) := by decide +kernel
theorem dX6_makeEmpty_1 : decode cX6_makeEmpty 1 = .ok (.iconst 0, 1) := by decide +kernel
theorem dX6_makeEmpty_2 : decode cX6_makeEmpty 2 = .ok (.putfield 15, 3) := by decide +kernel
theorem dX6_makeEmpty_5 : decode cX6_makeEmpty 5 = .ok (.aload_n 0, 1) := by decide +kernel
theorem dX6_makeEmpty_6 : decode cX6_makeEmpty 6 = .ok (.iconst 0, 1) := by decide +kernel
theorem dX6_makeEmpty_7 : decode cX6_makeEmpty 7 = .ok (.putfield 19, 3) := by decide +kernel
theorem dX6_makeEmpty_10 : decode cX6_makeEmpty 10 = .ok (.return_, 1) := by decide +kernel
theorem dX6_append_0 : decode cX6_append 0 = .ok (.aload_n 0, 1) := by decide +kernel
theorem dX6_append_1 : decode cX6_append 1 = .ok (.getfield 15, 3) := by decide +kernel
theorem dX6_append_4 : decode cX6_append 4 = .ok (.sipush 6000, 3) := by decide +kernel
theorem dX6_append_7 : decode cX6_append 7 = .ok (.if_icmp .lt 9, 3) := by decide +kernel
theorem dX6_append_10 : decode cX6_append 10 = .ok (.aload_n 0, 1) := by decide +kernel
theorem dX6_append_11 : decode cX6_append 11 = .ok (.iconst 1, 1) := by decide +kernel
theorem dX6_append_12 : decode cX6_append 12 = .ok (.putfield 19, 3) := by decide +kernel
theorem dX6_append_15 : decode cX6_append 15 = .ok (.return_, 1) := by decide +kernel
theorem dX6_append_16 : decode cX6_append 16 = .ok (.aload_n 0, 1) := by decide +kernel
theorem dX6_append_17 : decode cX6_append 17 = .ok (.getfield 9, 3) := by decide +kernel
theorem dX6_append_20 : decode cX6_append 20 = .ok (.aload_n 0, 1) := by decide +kernel
theorem dX6_append_21 : decode cX6_append 21 = .ok (.getfield 15, 3) := by decide +kernel
theorem dX6_append_24 : decode cX6_append 24 = .ok (.iload_n 1, 1) := by decide +kernel
theorem dX6_append_25 : decode cX6_append 25 = .ok (.castore, 1) := by decide +kernel
theorem dX6_append_26 : decode cX6_append 26 = .ok (.aload_n 0, 1) := by decide +kernel
theorem dX6_append_27 : decode cX6_append 27 = .ok (.dup, 1) := by decide +kernel
theorem dX6_append_28 : decode cX6_append 28 = .ok (.getfield 15, 3) := by decide +kernel
theorem dX6_append_31 : decode cX6_append 31 = .ok (.iconst 1, 1) := by decide +kernel
theorem dX6_append_32 : decode cX6_append 32 = .ok (.iadd, 1) := by decide +kernel
theorem dX6_append_33 : decode cX6_append 33 = .ok (.putfield 15, 3) := by decide +kernel
theorem dX6_append_36 : decode cX6_append 36 = .ok (.return_, 1) := by decide +kernel
theorem dX6_appendNumber_0 : decode cX6_appendNumber 0 = .ok (.iload_n 1, 1) := by decide +kernel
theorem dX6_appendNumber_1 : decode cX6_appendNumber 1 = .ok (.ifCond .ge 11, 3) := by decide +kernel
theorem dX6_appendNumber_4 : decode cX6_appendNumber 4 = .ok (.iconst 1, 1) := by decide +kernel
theorem dX6_appendNumber_5 : decode cX6_appendNumber 5 = .ok (.iconst 2, 1) := by decide +kernel
theorem dX6_appendNumber_6 : decode cX6_appendNumber 6 = .ok (.iload_n 1, 1) := by decide +kernel
theorem dX6_appendNumber_7 : decode cX6_appendNumber 7 = .ok (.imul, 1) := by decide +kernel
theorem dX6_appendNumber_8 : decode cX6_appendNumber 8 = .ok (.isub, 1) := by decide +kernel
theorem dX6_appendNumber_9 : decode cX6_appendNumber 9 = .ok (.goto 6, 3) := by decide +kernel
theorem dX6_appendNumber_12 : decode cX6_appendNumber 12 = .ok (.iconst 2, 1) := by decide +kernel
theorem dX6_appendNumber_13 : decode cX6_appendNumber 13 = .ok (.iload_n 1, 1) := by decide +kernel
theorem dX6_appendNumber_14 : decode cX6_appendNumber 14 = .ok (.imul, 1) := by decide +kernel
theorem dX6_appendNumber_15 : decode cX6_appendNumber 15 = .ok (.istore_n 2, 1) := by decide +kernel
theorem dX6_appendNumber_16 : decode cX6_appendNumber 16 = .ok (.iconst 0, 1) := by decide +kernel
theorem dX6_appendNumber_17 : decode cX6_appendNumber 17 = .ok (.istore_n 3, 1) := by decide +kernel
theorem dX6_appendNumber_18 : decode cX6_appendNumber 18 = .ok (.iload_n 3, 1) := by decide +kernel
theorem dX6_appendNumber_19 : decode cX6_appendNumber 19 = .ok (.bipush 7, 2) := by decide +kernel
theorem dX6_appendNumber_21 : decode cX6_appendNumber 21 = .ok (.if_icmp .ge 47, 3) := by decide +kernel
theorem dX6_appendNumber_24 : decode cX6_appendNumber 24 = .ok (.iload_n 2, 1) := by decide +kernel
theorem dX6_appendNumber_25 : decode cX6_appendNumber 25 = .ok (.bipush 31, 2) := by decide +kernel
theorem dX6_appendNumber_27 : decode cX6_appendNumber 27 = .ok (.iand, 1) := by decide +kernel
theorem dX6_appendNumber_28 : decode cX6_appendNumber 28 = .ok (.istore 4, 2) := by decide +kernel
theorem dX6_appendNumber_30 : decode cX6_appendNumber 30 = .ok (.iload_n 2, 1) := by decide +kernel
theorem dX6_appendNumber_31 : decode cX6_appendNumber 31 = .ok (.iconst 5, 1) := by decide +kernel
theorem dX6_appendNumber_32 : decode cX6_appendNumber 32 = .ok (.iushr, 1) := by decide +kernel
theorem dX6_appendNumber_33 : decode cX6_appendNumber 33 = .ok (.istore_n 2, 1) := by decide +kernel
theorem dX6_appendNumber_34 : decode cX6_appendNumber 34 = .ok (.aload_n 0, 1) := by decide +kernel
theorem dX6_appendNumber_35 : decode cX6_appendNumber 35 = .ok (.ldc 23, 2) := by decide +kernel
theorem dX6_appendNumber_37 : decode cX6_appendNumber 37 = .ok (.iload_n 2, 1) := by decide +kernel
theorem dX6_appendNumber_38 : decode cX6_appendNumber 38 = .ok (.ifCond .ne 8, 3) := by decide +kernel
theorem dX6_appendNumber_41 : decode cX6_appendNumber 41 = .ok (.iload 4, 2) := by decide +kernel
theorem dX6_appendNumber_43 : decode cX6_appendNumber 43 = .ok (.goto 8, 3) := by decide +kernel
theorem dX6_appendNumber_46 : decode cX6_appendNumber 46 = .ok (.iload 4, 2) := by decide +kernel
theorem dX6_appendNumber_48 : decode cX6_appendNumber 48 = .ok (.bipush 32, 2) := by decide +kernel
theorem dX6_appendNumber_50 : decode cX6_appendNumber 50 = .ok (.iadd, 1) := by decide +kernel
theorem dX6_appendNumber_51 : decode cX6_appendNumber 51 = .ok (.invokevirtual 25, 3) := by decide +kernel
theorem dX6_appendNumber_54 : decode cX6_appendNumber 54 = .ok (.invokevirtual 31, 3) := by decide +kernel
theorem dX6_appendNumber_57 : decode cX6_appendNumber 57 = .ok (.iload_n 2, 1) := by decide +kernel
theorem dX6_appendNumber_58 : decode cX6_appendNumber 58 = .ok (.ifCond .ne 4, 3) := by decide +kernel
theorem dX6_appendNumber_61 : decode cX6_appendNumber 61 = .ok (.return_, 1) := by decide +kernel
theorem dX6_appendNumber_62 : decode cX6_appendNumber 62 = .ok (.iinc 3 1, 3) := by decide +kernel
theorem dX6_appendNumber_65 : decode cX6_appendNumber 65 = .ok (.goto (-47), 3) := by decide +kernel
theorem dX6_appendNumber_68 : decode cX6_appendNumber 68 = .ok (.return_, 1) := by decide +kernel
theorem dX7_init_0 : decode cX7_init 0 = .ok (.aload_n 0, 1) := by decide +kernel
theorem dX7_init_1 : decode cX7_init 1 = .ok (.invokespecial 1, 3) := by decide +kernel
theorem dX7_init_4 : decode cX7_init 4 = .ok (.aload_n 0, 1) := by decide +kernel
theorem dX7_init_5 : decode cX7_init 5 = .ok (.new 7, 3) := by decide +kernel
theorem dX7_init_8 : decode cX7_init 8 = .ok (.dup, 1) := by decide +kernel
theorem dX7_init_9 : decode cX7_init 9 = .ok (.invokespecial 9, 3) := by decide +kernel
theorem dX7_init_12 : decode cX7_init 12 = .ok (.putfield 10, 3) := by decide +kernel
theorem dX7_init_15 : decode cX7_init 15 = .ok (.aload_n 0, 1) := by decide +kernel
theorem dX7_init_16 : decode cX7_init 16 = .ok (.new 16, 3) := by decide +kernel
theorem dX7_init_19 : decode cX7_init 19 = .ok (.dup, 1) := by decide +kernel
theorem dX7_init_20 : decode cX7_init 20 = .ok (.invokespecial 18, 3) := by decide +kernel
theorem dX7_init_23 : decode cX7_init 23 = .ok (.putfield 19, 3) := by decide +kernel
theorem dX7_init_26 : decode cX7_init 26 = .ok (.aload_n 0, 1) := by decide +kernel
theorem dX7_init_27 : decode cX7_init 27 = .ok (.new 23, 3) := by decide +kernel
theorem dX7_init_30 : decode cX7_init 30 = .ok (.dup, 1) := by decide +kernel
theorem dX7_init_31 : decode cX7_init 31 = .ok (.invokespecial 25, 3) := by decide +kernel
theorem dX7_init_34 : decode cX7_init 34 = .ok (.putfield 26, 3) := by decide +kernel
theorem dX7_init_37 : decode cX7_init 37 = .ok (.return_, 1) := by decide +kernel
theorem dX7_writeTable_0 : decode cX7_writeTable 0 = .ok (.aload_n 0, 1) := by decide +kernel
theorem dX7_writeTable_1 : decode cX7_writeTable 1 = .ok (.getfield 26, 3) := by decide +kernel
theorem dX7_writeTable_4 : decode cX7_writeTable 4 = .ok (.invokevirtual 30, 3) := by decide +kernel
theorem dX7_writeTable_7 : decode cX7_writeTable 7 = .ok (.aload_n 0, 1) := by decide +kernel
theorem dX7_writeTable_8 : decode cX7_writeTable 8 = .ok (.getfield 10, 3) := by decide +kernel
theorem dX7_writeTable_11 : decode cX7_writeTable 11 = .ok (.invokevirtual 33, 3) := by decide +kernel
theorem dX7_writeTable_14 : decode cX7_writeTable 14 = .ok (.aload_n 0, 1) := by decide +kernel
theorem dX7_writeTable_15 : decode cX7_writeTable 15 = .ok (.iconst 0, 1) := by decide +kernel
theorem dX7_writeTable_16 : decode cX7_writeTable 16 = .ok (.putfield 36, 3) := by decide +kernel
theorem dX7_writeTable_19 : decode cX7_writeTable 19 = .ok (.iconst 0, 1) := by decide +kernel
theorem dX7_writeTable_20 : decode cX7_writeTable 20 = .ok (.istore_n 2, 1) := by decide +kernel
theorem dX7_writeTable_21 : decode cX7_writeTable 21 = .ok (.iload_n 2, 1) := by decide +kernel
theorem dX7_writeTable_22 : decode cX7_writeTable 22 = .ok (.aload_n 1, 1) := by decide +kernel
theorem dX7_writeTable_23 : decode cX7_writeTable 23 = .ok (.getfield 40, 3) := by decide +kernel
theorem dX7_writeTable_26 : decode cX7_writeTable 26 = .ok (.if_icmp .ge 74, 3) := by decide +kernel
theorem dX7_writeTable_29 : decode cX7_writeTable 29 = .ok (.aload_n 1, 1) := by decide +kernel
theorem dX7_writeTable_30 : decode cX7_writeTable 30 = .ok (.iload_n 2, 1) := by decide +kernel
theorem dX7_writeTable_31 : decode cX7_writeTable 31 = .ok (.aload_n 0, 1) := by decide +kernel
theorem dX7_writeTable_32 : decode cX7_writeTable 32 = .ok (.getfield 19, 3) := by decide +kernel
theorem dX7_writeTable_35 : decode cX7_writeTable 35 = .ok (.invokevirtual 45, 3) := by decide +kernel
theorem dX7_writeTable_38 : decode cX7_writeTable 38 = .ok (.iload_n 2, 1) := by decide +kernel
theorem dX7_writeTable_39 : decode cX7_writeTable 39 = .ok (.ifCond .le 29, 3) := by decide +kernel
theorem dX7_writeTable_42 : decode cX7_writeTable 42 = .ok (.aload_n 0, 1) := by decide +kernel
theorem dX7_writeTable_43 : decode cX7_writeTable 43 = .ok (.getfield 19, 3) := by decide +kernel
theorem dX7_writeTable_46 : decode cX7_writeTable 46 = .ok (.getfield 49, 3) := by decide +kernel
theorem dX7_writeTable_49 : decode cX7_writeTable 49 = .ok (.aload_n 0, 1) := by decide +kernel
theorem dX7_writeTable_50 : decode cX7_writeTable 50 = .ok (.getfield 36, 3) := by decide +kernel
theorem dX7_writeTable_53 : decode cX7_writeTable 53 = .ok (.if_icmp .ne 15, 3) := by decide +kernel
theorem dX7_writeTable_56 : decode cX7_writeTable 56 = .ok (.aload_n 0, 1) := by decide +kernel
theorem dX7_writeTable_57 : decode cX7_writeTable 57 = .ok (.getfield 26, 3) := by decide +kernel
theorem dX7_writeTable_60 : decode cX7_writeTable 60 = .ok (.bipush 44, 2) := by decide +kernel
theorem dX7_writeTable_62 : decode cX7_writeTable 62 = .ok (.invokevirtual 50, 3) := by decide +kernel
theorem dX7_writeTable_65 : decode cX7_writeTable 65 = .ok (.goto 14, 3) := by decide +kernel
theorem dX7_writeTable_68 : decode cX7_writeTable 68 = .ok (.aload_n 0, 1) := by decide +kernel
theorem dX7_writeTable_69 : decode cX7_writeTable 69 = .ok (.aload_n 0, 1) := by decide +kernel
theorem dX7_writeTable_70 : decode cX7_writeTable 70 = .ok (.getfield 19, 3) := by decide +kernel
theorem dX7_writeTable_73 : decode cX7_writeTable 73 = .ok (.getfield 49, 3) := by decide +kernel
theorem dX7_writeTable_76 : decode cX7_writeTable 76 = .ok (.invokevirtual 54, 3) := by decide +kernel
theorem dX7_writeTable_79 : decode cX7_writeTable 79 = .ok (.aload_n 0, 1) := by decide +kernel
theorem dX7_writeTable_80 : decode cX7_writeTable 80 = .ok (.invokevirtual 58, 3) := by decide +kernel
theorem dX7_writeTable_83 : decode cX7_writeTable 83 = .ok (.aload_n 0, 1) := by decide +kernel
theorem dX7_writeTable_84 : decode cX7_writeTable 84 = .ok (.getfield 10, 3) := by decide +kernel
theorem dX7_writeTable_87 : decode cX7_writeTable 87 = .ok (.aload_n 0, 1) := by decide +kernel
theorem dX7_writeTable_88 : decode cX7_writeTable 88 = .ok (.getfield 19, 3) := by decide +kernel
theorem dX7_writeTable_91 : decode cX7_writeTable 91 = .ok (.invokevirtual 61, 3) := by decide +kernel
theorem dX7_writeTable_94 : decode cX7_writeTable 94 = .ok (.iinc 2 1, 3) := by decide +kernel
theorem dX7_writeTable_97 : decode cX7_writeTable 97 = .ok (.goto (-76), 3) := by decide +kernel
theorem dX7_writeTable_100 : decode cX7_writeTable 100 = .ok (.aload_n 0, 1) := by decide +kernel
theorem dX7_writeTable_101 : decode cX7_writeTable 101 = .ok (.getfield 26, 3) := by decide +kernel
theorem dX7_writeTable_104 : decode cX7_writeTable 104 = .ok (.getfield 65, 3) := by decide +kernel
theorem dX7_writeTable_107 : decode cX7_writeTable 107 = .ok (.ifCond .ne 7, 3) := by decide +kernel
theorem dX7_writeTable_110 : decode cX7_writeTable 110 = .ok (.iconst 1, 1) := by decide +kernel
theorem dX7_writeTable_111 : decode cX7_writeTable 111 = .ok (.goto 4, 3) := by decide +kernel
theorem dX7_writeTable_114 : decode cX7_writeTable 114 = .ok (.iconst 0, 1) := by decide +kernel
theorem dX7_writeTable_115 : decode cX7_writeTable 115 = .ok (.ireturn, 1) := by decide +kernel
theorem dX7_exchangeText_0 : decode cX7_exchangeText 0 = .ok (.aload_n 0, 1) := by decide +kernel
theorem dX7_exchangeText_1 : decode cX7_exchangeText 1 = .ok (.getfield 26, 3) := by decide +kernel
theorem dX7_exchangeText_4 : decode cX7_exchangeText 4 = .ok (.astore_n 2, 1) := by decide +kernel
theorem dX7_exchangeText_5 : decode cX7_exchangeText 5 = .ok (.aload_n 0, 1) := by decide +kernel
theorem dX7_exchangeText_6 : decode cX7_exchangeText 6 = .ok (.aload_n 1, 1) := by decide +kernel
theorem dX7_exchangeText_7 : decode cX7_exchangeText 7 = .ok (.putfield 26, 3) := by decide +kernel
theorem dX7_exchangeText_10 : decode cX7_exchangeText 10 = .ok (.aload_n 2, 1) := by decide +kernel
theorem dX7_exchangeText_11 : decode cX7_exchangeText 11 = .ok (.areturn, 1) := by decide +kernel
theorem dX7_goToLine_0 : decode cX7_goToLine 0 = .ok (.aload_n 0, 1) := by decide +kernel
theorem dX7_goToLine_1 : decode cX7_goToLine 1 = .ok (.getfield 36, 3) := by decide +kernel
theorem dX7_goToLine_4 : decode cX7_goToLine 4 = .ok (.istore_n 2, 1) := by decide +kernel
theorem dX7_goToLine_5 : decode cX7_goToLine 5 = .ok (.iload_n 2, 1) := by decide +kernel
theorem dX7_goToLine_6 : decode cX7_goToLine 6 = .ok (.iload_n 1, 1) := by decide +kernel
theorem dX7_goToLine_7 : decode cX7_goToLine 7 = .ok (.if_icmp .ge 18, 3) := by decide +kernel
theorem dX7_goToLine_10 : decode cX7_goToLine 10 = .ok (.aload_n 0, 1) := by decide +kernel
theorem dX7_goToLine_11 : decode cX7_goToLine 11 = .ok (.getfield 26, 3) := by decide +kernel
theorem dX7_goToLine_14 : decode cX7_goToLine 14 = .ok (.bipush 59, 2) := by decide +kernel
theorem dX7_goToLine_16 : decode cX7_goToLine 16 = .ok (.invokevirtual 50, 3) := by decide +kernel
theorem dX7_goToLine_19 : decode cX7_goToLine 19 = .ok (.iinc 2 1, 3) := by decide +kernel
theorem dX7_goToLine_22 : decode cX7_goToLine 22 = .ok (.goto (-17), 3) := by decide +kernel
theorem dX7_goToLine_25 : decode cX7_goToLine 25 = .ok (.aload_n 0, 1) := by decide +kernel
theorem dX7_goToLine_26 : decode cX7_goToLine 26 = .ok (.iload_n 1, 1) := by decide +kernel
theorem dX7_goToLine_27 : decode cX7_goToLine 27 = .ok (.putfield 36, 3) := by decide +kernel
theorem dX7_goToLine_30 : decode cX7_goToLine 30 = .ok (.aload_n 0, 1) := by decide +kernel
theorem dX7_goToLine_31 : decode cX7_goToLine 31 = .ok (.getfield 10, 3) := by decide +kernel
theorem dX7_goToLine_34 : decode cX7_goToLine 34 = .ok (.invokevirtual 69, 3) := by decide +kernel
theorem dX7_goToLine_37 : decode cX7_goToLine 37 = .ok (.return_, 1) := by decide +kernel
theorem dX7_writeSegment_0 : decode cX7_writeSegment 0 = .ok (.aload_n 0, 1) := by decide +kernel
theorem dX7_writeSegment_1 : decode cX7_writeSegment 1 = .ok (.getfield 26, 3) := by decide +kernel
theorem dX7_writeSegment_4 : decode cX7_writeSegment 4 = .ok (.aload_n 0, 1) := by decide +kernel
theorem dX7_writeSegment_5 : decode cX7_writeSegment 5 = .ok (.getfield 19, 3) := by decide +kernel
theorem dX7_writeSegment_8 : decode cX7_writeSegment 8 = .ok (.getfield 72, 3) := by decide +kernel
theorem dX7_writeSegment_11 : decode cX7_writeSegment 11 = .ok (.aload_n 0, 1) := by decide +kernel
theorem dX7_writeSegment_12 : decode cX7_writeSegment 12 = .ok (.getfield 10, 3) := by decide +kernel
theorem dX7_writeSegment_15 : decode cX7_writeSegment 15 = .ok (.getfield 75, 3) := by decide +kernel
theorem dX7_writeSegment_18 : decode cX7_writeSegment 18 = .ok (.isub, 1) := by decide +kernel
theorem dX7_writeSegment_19 : decode cX7_writeSegment 19 = .ok (.invokevirtual 76, 3) := by decide +kernel
theorem dX7_writeSegment_22 : decode cX7_writeSegment 22 = .ok (.aload_n 0, 1) := by decide +kernel
theorem dX7_writeSegment_23 : decode cX7_writeSegment 23 = .ok (.getfield 19, 3) := by decide +kernel
theorem dX7_writeSegment_26 : decode cX7_writeSegment 26 = .ok (.invokevirtual 79, 3) := by decide +kernel
theorem dX7_writeSegment_29 : decode cX7_writeSegment 29 = .ok (.ifCond .eq 69, 3) := by decide +kernel
theorem dX7_writeSegment_32 : decode cX7_writeSegment 32 = .ok (.aload_n 0, 1) := by decide +kernel
theorem dX7_writeSegment_33 : decode cX7_writeSegment 33 = .ok (.getfield 26, 3) := by decide +kernel
theorem dX7_writeSegment_36 : decode cX7_writeSegment 36 = .ok (.aload_n 0, 1) := by decide +kernel
theorem dX7_writeSegment_37 : decode cX7_writeSegment 37 = .ok (.getfield 19, 3) := by decide +kernel
theorem dX7_writeSegment_40 : decode cX7_writeSegment 40 = .ok (.getfield 83, 3) := by decide +kernel
theorem dX7_writeSegment_43 : decode cX7_writeSegment 43 = .ok (.aload_n 0, 1) := by decide +kernel
theorem dX7_writeSegment_44 : decode cX7_writeSegment 44 = .ok (.getfield 10, 3) := by decide +kernel
theorem dX7_writeSegment_47 : decode cX7_writeSegment 47 = .ok (.getfield 86, 3) := by decide +kernel
theorem dX7_writeSegment_50 : decode cX7_writeSegment 50 = .ok (.isub, 1) := by decide +kernel
theorem dX7_writeSegment_51 : decode cX7_writeSegment 51 = .ok (.invokevirtual 76, 3) := by decide +kernel
theorem dX7_writeSegment_54 : decode cX7_writeSegment 54 = .ok (.aload_n 0, 1) := by decide +kernel
theorem dX7_writeSegment_55 : decode cX7_writeSegment 55 = .ok (.getfield 26, 3) := by decide +kernel
theorem dX7_writeSegment_58 : decode cX7_writeSegment 58 = .ok (.aload_n 0, 1) := by decide +kernel
theorem dX7_writeSegment_59 : decode cX7_writeSegment 59 = .ok (.getfield 19, 3) := by decide +kernel
theorem dX7_writeSegment_62 : decode cX7_writeSegment 62 = .ok (.getfield 87, 3) := by decide +kernel
theorem dX7_writeSegment_65 : decode cX7_writeSegment 65 = .ok (.aload_n 0, 1) := by decide +kernel
theorem dX7_writeSegment_66 : decode cX7_writeSegment 66 = .ok (.getfield 10, 3) := by decide +kernel
theorem dX7_writeSegment_69 : decode cX7_writeSegment 69 = .ok (.getfield 90, 3) := by decide +kernel
theorem dX7_writeSegment_72 : decode cX7_writeSegment 72 = .ok (.isub, 1) := by decide +kernel
theorem dX7_writeSegment_73 : decode cX7_writeSegment 73 = .ok (.invokevirtual 76, 3) := by decide +kernel
theorem dX7_writeSegment_76 : decode cX7_writeSegment 76 = .ok (.aload_n 0, 1) := by decide +kernel
theorem dX7_writeSegment_77 : decode cX7_writeSegment 77 = .ok (.getfield 26, 3) := by decide +kernel
theorem dX7_writeSegment_80 : decode cX7_writeSegment 80 = .ok (.aload_n 0, 1) := by decide +kernel
theorem dX7_writeSegment_81 : decode cX7_writeSegment 81 = .ok (.getfield 19, 3) := by decide +kernel
theorem dX7_writeSegment_84 : decode cX7_writeSegment 84 = .ok (.getfield 91, 3) := by decide +kernel
theorem dX7_writeSegment_87 : decode cX7_writeSegment 87 = .ok (.aload_n 0, 1) := by decide +kernel
theorem dX7_writeSegment_88 : decode cX7_writeSegment 88 = .ok (.getfield 10, 3) := by decide +kernel
theorem dX7_writeSegment_91 : decode cX7_writeSegment 91 = .ok (.getfield 94, 3) := by decide +kernel
theorem dX7_writeSegment_94 : decode cX7_writeSegment 94 = .ok (.isub, 1) := by decide +kernel
theorem dX7_writeSegment_95 : decode cX7_writeSegment 95 = .ok (.invokevirtual 76, 3) := by decide +kernel
theorem dX7_writeSegment_98 : decode cX7_writeSegment 98 = .ok (.aload_n 0, 1) := by decide +kernel
theorem dX7_writeSegment_99 : decode cX7_writeSegment 99 = .ok (.getfield 19, 3) := by decide +kernel
theorem dX7_writeSegment_102 : decode cX7_writeSegment 102 = .ok (.invokevirtual 95, 3) := by decide +kernel
theorem dX7_writeSegment_105 : decode cX7_writeSegment 105 = .ok (.ifCond .eq 25, 3) := by decide +kernel
theorem dX7_writeSegment_108 : decode cX7_writeSegment 108 = .ok (.aload_n 0, 1) := by decide +kernel
theorem dX7_writeSegment_109 : decode cX7_writeSegment 109 = .ok (.getfield 26, 3) := by decide +kernel
theorem dX7_writeSegment_112 : decode cX7_writeSegment 112 = .ok (.aload_n 0, 1) := by decide +kernel
theorem dX7_writeSegment_113 : decode cX7_writeSegment 113 = .ok (.getfield 19, 3) := by decide +kernel
theorem dX7_writeSegment_116 : decode cX7_writeSegment 116 = .ok (.getfield 98, 3) := by decide +kernel
theorem dX7_writeSegment_119 : decode cX7_writeSegment 119 = .ok (.aload_n 0, 1) := by decide +kernel
theorem dX7_writeSegment_120 : decode cX7_writeSegment 120 = .ok (.getfield 10, 3) := by decide +kernel
theorem dX7_writeSegment_123 : decode cX7_writeSegment 123 = .ok (.getfield 101, 3) := by decide +kernel
theorem dX7_writeSegment_126 : decode cX7_writeSegment 126 = .ok (.isub, 1) := by decide +kernel
theorem dX7_writeSegment_127 : decode cX7_writeSegment 127 = .ok (.invokevirtual 76, 3) := by decide +kernel
theorem dX7_writeSegment_130 : decode cX7_writeSegment 130 = .ok (.return_, 1) := by decide +kernel
theorem dX8_init_0 : decode cX8_init 0 = .ok (.aload_n 0, 1) := by decide +kernel
theorem dX8_init_1 : decode cX8_init 1 = .ok (.invokespecial 1, 3) := by decide +kernel
theorem dX8_init_4 : decode cX8_init 4 = .ok (.aload_n 0, 1) := by decide +kernel
theorem dX8_init_5 : decode cX8_init 5 = .ok (.new 7, 3) := by decide +kernel
theorem dX8_init_8 : decode cX8_init 8 = .ok (.dup, 1) := by decide +kernel
theorem dX8_init_9 : decode cX8_init 9 = .ok (.invokespecial 9, 3) := by decide +kernel
theorem dX8_init_12 : decode cX8_init 12 = .ok (.putfield 10, 3) := by decide +kernel
theorem dX8_init_15 : decode cX8_init 15 = .ok (.aload_n 0, 1) := by decide +kernel
theorem dX8_init_16 : decode cX8_init 16 = .ok (.new 16, 3) := by decide +kernel
theorem dX8_init_19 : decode cX8_init 19 = .ok (.dup, 1) := by decide +kernel
theorem dX8_init_20 : decode cX8_init 20 = .ok (.invokespecial 18, 3) := by decide +kernel
theorem dX8_init_23 : decode cX8_init 23 = .ok (.putfield 19, 3) := by decide +kernel
theorem dX8_init_26 : decode cX8_init 26 = .ok (.aload_n 0, 1) := by decide +kernel
theorem dX8_init_27 : decode cX8_init 27 = .ok (.new 23, 3) := by decide +kernel
theorem dX8_init_30 : decode cX8_init 30 = .ok (.dup, 1) := by decide +kernel
theorem dX8_init_31 : decode cX8_init 31 = .ok (.invokespecial 25, 3) := by decide +kernel
theorem dX8_init_34 : decode cX8_init 34 = .ok (.putfield 26, 3) := by decide +kernel
theorem dX8_init_37 : decode cX8_init 37 = .ok (.aload_n 0, 1) := by decide +kernel
theorem dX8_init_38 : decode cX8_init 38 = .ok (.new 30, 3) := by decide +kernel
theorem dX8_init_41 : decode cX8_init 41 = .ok (.dup, 1) := by decide +kernel
theorem dX8_init_42 : decode cX8_init 42 = .ok (.invokespecial 32, 3) := by decide +kernel
theorem dX8_init_45 : decode cX8_init 45 = .ok (.putfield 33, 3) := by decide +kernel
theorem dX8_init_48 : decode cX8_init 48 = .ok (.aload_n 0, 1) := by decide +kernel
theorem dX8_init_49 : decode cX8_init 49 = .ok (.new 37, 3) := by decide +kernel
theorem dX8_init_52 : decode cX8_init 52 = .ok (.dup, 1) := by decide +kernel
theorem dX8_init_53 : decode cX8_init 53 = .ok (.invokespecial 39, 3) := by decide +kernel
theorem dX8_init_56 : decode cX8_init 56 = .ok (.putfield 40, 3) := by decide +kernel
theorem dX8_init_59 : decode cX8_init 59 = .ok (.aload_n 0, 1) := by decide +kernel
theorem dX8_init_60 : decode cX8_init 60 = .ok (.new 37, 3) := by decide +kernel
theorem dX8_init_63 : decode cX8_init 63 = .ok (.dup, 1) := by decide +kernel
theorem dX8_init_64 : decode cX8_init 64 = .ok (.invokespecial 39, 3) := by decide +kernel
theorem dX8_init_67 : decode cX8_init 67 = .ok (.putfield 44, 3) := by decide +kernel
theorem dX8_init_70 : decode cX8_init 70 = .ok (.aload_n 0, 1) := by decide +kernel
theorem dX8_init_71 : decode cX8_init 71 = .ok (.new 47, 3) := by decide +kernel
theorem dX8_init_74 : decode cX8_init 74 = .ok (.dup, 1) := by decide +kernel
theorem dX8_init_75 : decode cX8_init 75 = .ok (.invokespecial 49, 3) := by decide +kernel
theorem dX8_init_78 : decode cX8_init 78 = .ok (.putfield 50, 3) := by decide +kernel
theorem dX8_init_81 : decode cX8_init 81 = .ok (.aload_n 0, 1) := by decide +kernel
theorem dX8_init_82 : decode cX8_init 82 = .ok (.iconst 0, 1) := by decide +kernel
theorem dX8_init_83 : decode cX8_init 83 = .ok (.putfield 54, 3) := by decide +kernel
theorem dX8_init_86 : decode cX8_init 86 = .ok (.return_, 1) := by decide +kernel
theorem dX8_feed_0 : decode cX8_feed 0 = .ok (.aload_n 0, 1) := by decide +kernel
theorem dX8_feed_1 : decode cX8_feed 1 = .ok (.getfield 10, 3) := by decide +kernel
theorem dX8_feed_4 : decode cX8_feed 4 = .ok (.invokevirtual 58, 3) := by decide +kernel
theorem dX8_feed_7 : decode cX8_feed 7 = .ok (.ifCond .ne 5, 3) := by decide +kernel
theorem dX8_feed_10 : decode cX8_feed 10 = .ok (.iconst 0, 1) := by decide +kernel
theorem dX8_feed_11 : decode cX8_feed 11 = .ok (.ireturn, 1) := by decide +kernel
theorem dX8_feed_12 : decode cX8_feed 12 = .ok (.aload_n 0, 1) := by decide +kernel
theorem dX8_feed_13 : decode cX8_feed 13 = .ok (.getfield 10, 3) := by decide +kernel
theorem dX8_feed_16 : decode cX8_feed 16 = .ok (.iload_n 1, 1) := by decide +kernel
theorem dX8_feed_17 : decode cX8_feed 17 = .ok (.invokevirtual 62, 3) := by decide +kernel
theorem dX8_feed_20 : decode cX8_feed 20 = .ok (.aload_n 0, 1) := by decide +kernel
theorem dX8_feed_21 : decode cX8_feed 21 = .ok (.getfield 10, 3) := by decide +kernel
theorem dX8_feed_24 : decode cX8_feed 24 = .ok (.iload_n 2, 1) := by decide +kernel
theorem dX8_feed_25 : decode cX8_feed 25 = .ok (.invokevirtual 62, 3) := by decide +kernel
theorem dX8_feed_28 : decode cX8_feed 28 = .ok (.aload_n 0, 1) := by decide +kernel
theorem dX8_feed_29 : decode cX8_feed 29 = .ok (.getfield 10, 3) := by decide +kernel
theorem dX8_feed_32 : decode cX8_feed 32 = .ok (.iload_n 3, 1) := by decide +kernel
theorem dX8_feed_33 : decode cX8_feed 33 = .ok (.invokevirtual 62, 3) := by decide +kernel
theorem dX8_feed_36 : decode cX8_feed 36 = .ok (.aload_n 0, 1) := by decide +kernel
theorem dX8_feed_37 : decode cX8_feed 37 = .ok (.getfield 10, 3) := by decide +kernel
theorem dX8_feed_40 : decode cX8_feed 40 = .ok (.iload 4, 2) := by decide +kernel
theorem dX8_feed_42 : decode cX8_feed 42 = .ok (.invokevirtual 62, 3) := by decide +kernel
theorem dX8_feed_45 : decode cX8_feed 45 = .ok (.aload_n 0, 1) := by decide +kernel
theorem dX8_feed_46 : decode cX8_feed 46 = .ok (.getfield 10, 3) := by decide +kernel
theorem dX8_feed_49 : decode cX8_feed 49 = .ok (.iload 5, 2) := by decide +kernel
theorem dX8_feed_51 : decode cX8_feed 51 = .ok (.invokevirtual 62, 3) := by decide +kernel
theorem dX8_feed_54 : decode cX8_feed 54 = .ok (.iconst 1, 1) := by decide +kernel
theorem dX8_feed_55 : decode cX8_feed 55 = .ok (.ireturn, 1) := by decide +kernel
theorem dX8_end_0 : decode cX8_end 0 = .ok (.iload_n 1, 1) := by decide +kernel
theorem dX8_end_1 : decode cX8_end 1 = .ok (.ifCond .lt 14, 3) := by decide +kernel
theorem dX8_end_4 : decode cX8_end 4 = .ok (.iload_n 1, 1) := by decide +kernel
theorem dX8_end_5 : decode cX8_end 5 = .ok (.aload_n 0, 1) := by decide +kernel
theorem dX8_end_6 : decode cX8_end 6 = .ok (.getfield 10, 3) := by decide +kernel
theorem dX8_end_9 : decode cX8_end 9 = .ok (.getfield 66, 3) := by decide +kernel
theorem dX8_end_12 : decode cX8_end 12 = .ok (.if_icmp .le 5, 3) := by decide +kernel
theorem dX8_end_15 : decode cX8_end 15 = .ok (.iconst 0, 1) := by decide +kernel
theorem dX8_end_16 : decode cX8_end 16 = .ok (.ireturn, 1) := by decide +kernel
theorem dX8_end_17 : decode cX8_end 17 = .ok (.aload_n 0, 1) := by decide +kernel
theorem dX8_end_18 : decode cX8_end 18 = .ok (.getfield 10, 3) := by decide +kernel
theorem dX8_end_21 : decode cX8_end 21 = .ok (.iload_n 1, 1) := by decide +kernel
theorem dX8_end_22 : decode cX8_end 22 = .ok (.putfield 66, 3) := by decide +kernel
theorem dX8_end_25 : decode cX8_end 25 = .ok (.iconst 1, 1) := by decide +kernel
theorem dX8_end_26 : decode cX8_end 26 = .ok (.ireturn, 1) := by decide +kernel
theorem dX8_read_0 : decode cX8_read 0 = .ok (.aload_n 0, 1) := by decide +kernel
theorem dX8_read_1 : decode cX8_read 1 = .ok (.iconst 0, 1) := by decide +kernel
theorem dX8_read_2 : decode cX8_read 2 = .ok (.putfield 54, 3) := by decide +kernel
theorem dX8_read_5 : decode cX8_read 5 = .ok (.aload_n 0, 1) := by decide +kernel
theorem dX8_read_6 : decode cX8_read 6 = .ok (.iload_n 1, 1) := by decide +kernel
theorem dX8_read_7 : decode cX8_read 7 = .ok (.invokevirtual 69, 3) := by decide +kernel
theorem dX8_read_10 : decode cX8_read 10 = .ok (.ifnonnull 13, 3) := by decide +kernel
theorem dX8_read_13 : decode cX8_read 13 = .ok (.aload_n 0, 1) := by decide +kernel
theorem dX8_read_14 : decode cX8_read 14 = .ok (.getfield 10, 3) := by decide +kernel
theorem dX8_read_17 : decode cX8_read 17 = .ok (.iconst 0, 1) := by decide +kernel
theorem dX8_read_18 : decode cX8_read 18 = .ok (.putfield 66, 3) := by decide +kernel
theorem dX8_read_21 : decode cX8_read 21 = .ok (.iconst (-1), 1) := by decide +kernel
theorem dX8_read_22 : decode cX8_read 22 = .ok (.ireturn, 1) := by decide +kernel
theorem dX8_read_23 : decode cX8_read 23 = .ok (.aload_n 0, 1) := by decide +kernel
theorem dX8_read_24 : decode cX8_read 24 = .ok (.getfield 19, 3) := by decide +kernel
theorem dX8_read_27 : decode cX8_read 27 = .ok (.aload_n 0, 1) := by decide +kernel
theorem dX8_read_28 : decode cX8_read 28 = .ok (.getfield 10, 3) := by decide +kernel
theorem dX8_read_31 : decode cX8_read 31 = .ok (.invokevirtual 73, 3) := by decide +kernel
theorem dX8_read_34 : decode cX8_read 34 = .ok (.aload_n 0, 1) := by decide +kernel
theorem dX8_read_35 : decode cX8_read 35 = .ok (.getfield 10, 3) := by decide +kernel
theorem dX8_read_38 : decode cX8_read 38 = .ok (.iconst 0, 1) := by decide +kernel
theorem dX8_read_39 : decode cX8_read 39 = .ok (.putfield 66, 3) := by decide +kernel
theorem dX8_read_42 : decode cX8_read 42 = .ok (.aload_n 0, 1) := by decide +kernel
theorem dX8_read_43 : decode cX8_read 43 = .ok (.aload_n 0, 1) := by decide +kernel
theorem dX8_read_44 : decode cX8_read 44 = .ok (.getfield 19, 3) := by decide +kernel
theorem dX8_read_47 : decode cX8_read 47 = .ok (.getfield 77, 3) := by decide +kernel
theorem dX8_read_50 : decode cX8_read 50 = .ok (.putfield 54, 3) := by decide +kernel
theorem dX8_read_53 : decode cX8_read 53 = .ok (.aload_n 0, 1) := by decide +kernel
theorem dX8_read_54 : decode cX8_read 54 = .ok (.getfield 54, 3) := by decide +kernel
theorem dX8_read_57 : decode cX8_read 57 = .ok (.ifCond .eq 14, 3) := by decide +kernel
theorem dX8_read_60 : decode cX8_read 60 = .ok (.bipush (-2), 2) := by decide +kernel
theorem dX8_read_62 : decode cX8_read 62 = .ok (.aload_n 0, 1) := by decide +kernel
theorem dX8_read_63 : decode cX8_read 63 = .ok (.getfield 19, 3) := by decide +kernel
theorem dX8_read_66 : decode cX8_read 66 = .ok (.getfield 80, 3) := by decide +kernel
theorem dX8_read_69 : decode cX8_read 69 = .ok (.isub, 1) := by decide +kernel
theorem dX8_read_70 : decode cX8_read 70 = .ok (.ireturn, 1) := by decide +kernel
theorem dX8_read_71 : decode cX8_read 71 = .ok (.iload_n 1, 1) := by decide +kernel
theorem dX8_read_72 : decode cX8_read 72 = .ok (.ifCond .ne 26, 3) := by decide +kernel
theorem dX8_read_75 : decode cX8_read 75 = .ok (.aload_n 0, 1) := by decide +kernel
theorem dX8_read_76 : decode cX8_read 76 = .ok (.aload_n 0, 1) := by decide +kernel
theorem dX8_read_77 : decode cX8_read 77 = .ok (.getfield 19, 3) := by decide +kernel
theorem dX8_read_80 : decode cX8_read 80 = .ok (.aload_n 0, 1) := by decide +kernel
theorem dX8_read_81 : decode cX8_read 81 = .ok (.getfield 40, 3) := by decide +kernel
theorem dX8_read_84 : decode cX8_read 84 = .ok (.invokevirtual 83, 3) := by decide +kernel
theorem dX8_read_87 : decode cX8_read 87 = .ok (.putfield 40, 3) := by decide +kernel
theorem dX8_read_90 : decode cX8_read 90 = .ok (.aload_n 0, 1) := by decide +kernel
theorem dX8_read_91 : decode cX8_read 91 = .ok (.getfield 40, 3) := by decide +kernel
theorem dX8_read_94 : decode cX8_read 94 = .ok (.getfield 87, 3) := by decide +kernel
theorem dX8_read_97 : decode cX8_read 97 = .ok (.ireturn, 1) := by decide +kernel
theorem dX8_read_98 : decode cX8_read 98 = .ok (.aload_n 0, 1) := by decide +kernel
theorem dX8_read_99 : decode cX8_read 99 = .ok (.aload_n 0, 1) := by decide +kernel
theorem dX8_read_100 : decode cX8_read 100 = .ok (.getfield 19, 3) := by decide +kernel
theorem dX8_read_103 : decode cX8_read 103 = .ok (.aload_n 0, 1) := by decide +kernel
theorem dX8_read_104 : decode cX8_read 104 = .ok (.getfield 44, 3) := by decide +kernel
theorem dX8_read_107 : decode cX8_read 107 = .ok (.invokevirtual 83, 3) := by decide +kernel
theorem dX8_read_110 : decode cX8_read 110 = .ok (.putfield 44, 3) := by decide +kernel
theorem dX8_read_113 : decode cX8_read 113 = .ok (.aload_n 0, 1) := by decide +kernel
theorem dX8_read_114 : decode cX8_read 114 = .ok (.getfield 44, 3) := by decide +kernel
theorem dX8_read_117 : decode cX8_read 117 = .ok (.getfield 87, 3) := by decide +kernel
theorem dX8_read_120 : decode cX8_read 120 = .ok (.ireturn, 1) := by decide +kernel
theorem dX8_fault_0 : decode cX8_fault 0 = .ok (.aload_n 0, 1) := by decide +kernel
theorem dX8_fault_1 : decode cX8_fault 1 = .ok (.getfield 54, 3) := by decide +kernel
theorem dX8_fault_4 : decode cX8_fault 4 = .ok (.ireturn, 1) := by decide +kernel
theorem dX8_put_0 : decode cX8_put 0 = .ok (.aload_n 0, 1) := by decide +kernel
theorem dX8_put_1 : decode cX8_put 1 = .ok (.iload_n 1, 1) := by decide +kernel
theorem dX8_put_2 : decode cX8_put 2 = .ok (.invokevirtual 69, 3) := by decide +kernel
theorem dX8_put_5 : decode cX8_put 5 = .ok (.astore 8, 2) := by decide +kernel
theorem dX8_put_7 : decode cX8_put 7 = .ok (.aload 8, 2) := by decide +kernel
theorem dX8_put_9 : decode cX8_put 9 = .ok (.ifnull 11, 3) := by decide +kernel
theorem dX8_put_12 : decode cX8_put 12 = .ok (.aload 8, 2) := by decide +kernel
theorem dX8_put_14 : decode cX8_put 14 = .ok (.invokevirtual 90, 3) := by decide +kernel
theorem dX8_put_17 : decode cX8_put 17 = .ok (.ifCond .eq 5, 3) := by decide +kernel
theorem dX8_put_20 : decode cX8_put 20 = .ok (.iconst (-1), 1) := by decide +kernel
theorem dX8_put_21 : decode cX8_put 21 = .ok (.ireturn, 1) := by decide +kernel
theorem dX8_put_22 : decode cX8_put 22 = .ok (.aload_n 0, 1) := by decide +kernel
theorem dX8_put_23 : decode cX8_put 23 = .ok (.getfield 33, 3) := by decide +kernel
theorem dX8_put_26 : decode cX8_put 26 = .ok (.iload_n 2, 1) := by decide +kernel
theorem dX8_put_27 : decode cX8_put 27 = .ok (.iload_n 3, 1) := by decide +kernel
theorem dX8_put_28 : decode cX8_put 28 = .ok (.invokevirtual 93, 3) := by decide +kernel
theorem dX8_put_31 : decode cX8_put 31 = .ok (.iload 4, 2) := by decide +kernel
theorem dX8_put_33 : decode cX8_put 33 = .ok (.ifCond .lt 18, 3) := by decide +kernel
theorem dX8_put_36 : decode cX8_put 36 = .ok (.aload_n 0, 1) := by decide +kernel
theorem dX8_put_37 : decode cX8_put 37 = .ok (.getfield 33, 3) := by decide +kernel
theorem dX8_put_40 : decode cX8_put 40 = .ok (.iload 4, 2) := by decide +kernel
theorem dX8_put_42 : decode cX8_put 42 = .ok (.iload 5, 2) := by decide +kernel
theorem dX8_put_44 : decode cX8_put 44 = .ok (.iload 6, 2) := by decide +kernel
theorem dX8_put_46 : decode cX8_put 46 = .ok (.iload 7, 2) := by decide +kernel
theorem dX8_put_48 : decode cX8_put 48 = .ok (.invokevirtual 97, 3) := by decide +kernel
theorem dX8_put_51 : decode cX8_put 51 = .ok (.aload_n 0, 1) := by decide +kernel
theorem dX8_put_52 : decode cX8_put 52 = .ok (.getfield 33, 3) := by decide +kernel
theorem dX8_put_55 : decode cX8_put 55 = .ok (.invokevirtual 101, 3) := by decide +kernel
theorem dX8_put_58 : decode cX8_put 58 = .ok (.ifCond .ne 5, 3) := by decide +kernel
theorem dX8_put_61 : decode cX8_put 61 = .ok (.iconst (-1), 1) := by decide +kernel
theorem dX8_put_62 : decode cX8_put 62 = .ok (.ireturn, 1) := by decide +kernel
theorem dX8_put_63 : decode cX8_put 63 = .ok (.aload 8, 2) := by decide +kernel
theorem dX8_put_65 : decode cX8_put 65 = .ok (.aload_n 0, 1) := by decide +kernel
theorem dX8_put_66 : decode cX8_put 66 = .ok (.getfield 33, 3) := by decide +kernel
theorem dX8_put_69 : decode cX8_put 69 = .ok (.invokevirtual 104, 3) := by decide +kernel
theorem dX8_put_72 : decode cX8_put 72 = .ok (.aload 8, 2) := by decide +kernel
theorem dX8_put_74 : decode cX8_put 74 = .ok (.getfield 87, 3) := by decide +kernel
theorem dX8_put_77 : decode cX8_put 77 = .ok (.ireturn, 1) := by decide +kernel
theorem dX8_write_0 : decode cX8_write 0 = .ok (.aload_n 0, 1) := by decide +kernel
theorem dX8_write_1 : decode cX8_write 1 = .ok (.iload_n 1, 1) := by decide +kernel
theorem dX8_write_2 : decode cX8_write 2 = .ok (.invokevirtual 69, 3) := by decide +kernel
theorem dX8_write_5 : decode cX8_write 5 = .ok (.astore_n 2, 1) := by decide +kernel
theorem dX8_write_6 : decode cX8_write 6 = .ok (.aload_n 2, 1) := by decide +kernel
theorem dX8_write_7 : decode cX8_write 7 = .ok (.ifnonnull 5, 3) := by decide +kernel
theorem dX8_write_10 : decode cX8_write 10 = .ok (.iconst (-1), 1) := by decide +kernel
theorem dX8_write_11 : decode cX8_write 11 = .ok (.ireturn, 1) := by decide +kernel
theorem dX8_write_12 : decode cX8_write 12 = .ok (.aload_n 0, 1) := by decide +kernel
theorem dX8_write_13 : decode cX8_write 13 = .ok (.getfield 26, 3) := by decide +kernel
theorem dX8_write_16 : decode cX8_write 16 = .ok (.aload_n 2, 1) := by decide +kernel
theorem dX8_write_17 : decode cX8_write 17 = .ok (.invokevirtual 108, 3) := by decide +kernel
theorem dX8_write_20 : decode cX8_write 20 = .ok (.ifCond .ne 5, 3) := by decide +kernel
theorem dX8_write_23 : decode cX8_write 23 = .ok (.iconst (-1), 1) := by decide +kernel
theorem dX8_write_24 : decode cX8_write 24 = .ok (.ireturn, 1) := by decide +kernel
theorem dX8_write_25 : decode cX8_write 25 = .ok (.aload_n 0, 1) := by decide +kernel
theorem dX8_write_26 : decode cX8_write 26 = .ok (.aload_n 0, 1) := by decide +kernel
theorem dX8_write_27 : decode cX8_write 27 = .ok (.getfield 26, 3) := by decide +kernel
theorem dX8_write_30 : decode cX8_write 30 = .ok (.aload_n 0, 1) := by decide +kernel
theorem dX8_write_31 : decode cX8_write 31 = .ok (.getfield 50, 3) := by decide +kernel
theorem dX8_write_34 : decode cX8_write 34 = .ok (.invokevirtual 112, 3) := by decide +kernel
theorem dX8_write_37 : decode cX8_write 37 = .ok (.putfield 50, 3) := by decide +kernel
theorem dX8_write_40 : decode cX8_write 40 = .ok (.aload_n 0, 1) := by decide +kernel
theorem dX8_write_41 : decode cX8_write 41 = .ok (.getfield 50, 3) := by decide +kernel
theorem dX8_write_44 : decode cX8_write 44 = .ok (.getfield 116, 3) := by decide +kernel
theorem dX8_write_47 : decode cX8_write 47 = .ok (.ireturn, 1) := by decide +kernel
theorem dX8_textAt_0 : decode cX8_textAt 0 = .ok (.iload_n 1, 1) := by decide +kernel
theorem dX8_textAt_1 : decode cX8_textAt 1 = .ok (.ifCond .lt 14, 3) := by decide +kernel
theorem dX8_textAt_4 : decode cX8_textAt 4 = .ok (.iload_n 1, 1) := by decide +kernel
theorem dX8_textAt_5 : decode cX8_textAt 5 = .ok (.aload_n 0, 1) := by decide +kernel
theorem dX8_textAt_6 : decode cX8_textAt 6 = .ok (.getfield 50, 3) := by decide +kernel
theorem dX8_textAt_9 : decode cX8_textAt 9 = .ok (.getfield 116, 3) := by decide +kernel
theorem dX8_textAt_12 : decode cX8_textAt 12 = .ok (.if_icmp .lt 11, 3) := by decide +kernel
theorem dX8_textAt_15 : decode cX8_textAt 15 = .ok (.new 117, 3) := by decide +kernel
theorem dX8_textAt_18 : decode cX8_textAt 18 = .ok (.dup, 1) := by decide +kernel
theorem dX8_textAt_19 : decode cX8_textAt 19 = .ok (.invokespecial 119, 3) := by decide +kernel
theorem dX8_textAt_22 : decode cX8_textAt 22 = .ok (.athrow, 1) := by decide +kernel
theorem dX8_textAt_23 : decode cX8_textAt 23 = .ok (.aload_n 0, 1) := by decide +kernel
theorem dX8_textAt_24 : decode cX8_textAt 24 = .ok (.getfield 50, 3) := by decide +kernel
theorem dX8_textAt_27 : decode cX8_textAt 27 = .ok (.getfield 120, 3) := by decide +kernel
theorem dX8_textAt_30 : decode cX8_textAt 30 = .ok (.iload_n 1, 1) := by decide +kernel
theorem dX8_textAt_31 : decode cX8_textAt 31 = .ok (.caload, 1) := by decide +kernel
theorem dX8_textAt_32 : decode cX8_textAt 32 = .ok (.ireturn, 1) := by decide +kernel
theorem dX8_ask_0 : decode cX8_ask 0 = .ok (.aload_n 0, 1) := by decide +kernel
theorem dX8_ask_1 : decode cX8_ask 1 = .ok (.iload_n 1, 1) := by decide +kernel
theorem dX8_ask_2 : decode cX8_ask 2 = .ok (.invokevirtual 69, 3) := by decide +kernel
theorem dX8_ask_5 : decode cX8_ask 5 = .ok (.astore 5, 2) := by decide +kernel
theorem dX8_ask_7 : decode cX8_ask 7 = .ok (.aload 5, 2) := by decide +kernel
theorem dX8_ask_9 : decode cX8_ask 9 = .ok (.ifnull 23, 3) := by decide +kernel
theorem dX8_ask_12 : decode cX8_ask 12 = .ok (.iload_n 2, 1) := by decide +kernel
theorem dX8_ask_13 : decode cX8_ask 13 = .ok (.i2l, 1) := by decide +kernel
theorem dX8_ask_14 : decode cX8_ask 14 = .ok (.ldc 124, 2) := by decide +kernel
theorem dX8_ask_16 : decode cX8_ask 16 = .ok (.invokestatic 125, 3) := by decide +kernel
theorem dX8_ask_19 : decode cX8_ask 19 = .ok (.ifCond .eq 13, 3) := by decide +kernel
theorem dX8_ask_22 : decode cX8_ask 22 = .ok (.iload_n 3, 1) := by decide +kernel
theorem dX8_ask_23 : decode cX8_ask 23 = .ok (.i2l, 1) := by decide +kernel
theorem dX8_ask_24 : decode cX8_ask 24 = .ok (.ldc 124, 2) := by decide +kernel
theorem dX8_ask_26 : decode cX8_ask 26 = .ok (.invokestatic 125, 3) := by decide +kernel
theorem dX8_ask_29 : decode cX8_ask 29 = .ok (.ifCond .ne 5, 3) := by decide +kernel
theorem dX8_ask_32 : decode cX8_ask 32 = .ok (.iconst (-1), 1) := by decide +kernel
theorem dX8_ask_33 : decode cX8_ask 33 = .ok (.ireturn, 1) := by decide +kernel
theorem dX8_ask_34 : decode cX8_ask 34 = .ok (.aload 5, 2) := by decide +kernel
theorem dX8_ask_36 : decode cX8_ask 36 = .ok (.iload_n 2, 1) := by decide +kernel
theorem dX8_ask_37 : decode cX8_ask 37 = .ok (.iload_n 3, 1) := by decide +kernel
theorem dX8_ask_38 : decode cX8_ask 38 = .ok (.invokevirtual 129, 3) := by decide +kernel
theorem dX8_ask_41 : decode cX8_ask 41 = .ok (.istore 6, 2) := by decide +kernel
theorem dX8_ask_43 : decode cX8_ask 43 = .ok (.iload 6, 2) := by decide +kernel
theorem dX8_ask_45 : decode cX8_ask 45 = .ok (.ifCond .ge 5, 3) := by decide +kernel
theorem dX8_ask_48 : decode cX8_ask 48 = .ok (.iconst (-1), 1) := by decide +kernel
theorem dX8_ask_49 : decode cX8_ask 49 = .ok (.ireturn, 1) := by decide +kernel
theorem dX8_ask_50 : decode cX8_ask 50 = .ok (.iload 4, 2) := by decide +kernel
theorem dX8_ask_52 : decode cX8_ask 52 = .ok (.tableswitch 75 0 4 #[36, 45, 54, 63, 72], 36) := by decide +kernel
theorem dX8_ask_88 : decode cX8_ask 88 = .ok (.aload 5, 2) := by decide +kernel
theorem dX8_ask_90 : decode cX8_ask 90 = .ok (.getfield 133, 3) := by decide +kernel
theorem dX8_ask_93 : decode cX8_ask 93 = .ok (.iload 6, 2) := by decide +kernel
theorem dX8_ask_95 : decode cX8_ask 95 = .ok (.iaload, 1) := by decide +kernel
theorem dX8_ask_96 : decode cX8_ask 96 = .ok (.ireturn, 1) := by decide +kernel
theorem dX8_ask_97 : decode cX8_ask 97 = .ok (.aload 5, 2) := by decide +kernel
theorem dX8_ask_99 : decode cX8_ask 99 = .ok (.getfield 137, 3) := by decide +kernel
theorem dX8_ask_102 : decode cX8_ask 102 = .ok (.iload 6, 2) := by decide +kernel
theorem dX8_ask_104 : decode cX8_ask 104 = .ok (.iaload, 1) := by decide +kernel
theorem dX8_ask_105 : decode cX8_ask 105 = .ok (.ireturn, 1) := by decide +kernel
theorem dX8_ask_106 : decode cX8_ask 106 = .ok (.aload 5, 2) := by decide +kernel
theorem dX8_ask_108 : decode cX8_ask 108 = .ok (.getfield 140, 3) := by decide +kernel
theorem dX8_ask_111 : decode cX8_ask 111 = .ok (.iload 6, 2) := by decide +kernel
theorem dX8_ask_113 : decode cX8_ask 113 = .ok (.iaload, 1) := by decide +kernel
theorem dX8_ask_114 : decode cX8_ask 114 = .ok (.ireturn, 1) := by decide +kernel
theorem dX8_ask_115 : decode cX8_ask 115 = .ok (.aload 5, 2) := by decide +kernel
theorem dX8_ask_117 : decode cX8_ask 117 = .ok (.getfield 143, 3) := by decide +kernel
theorem dX8_ask_120 : decode cX8_ask 120 = .ok (.iload 6, 2) := by decide +kernel
theorem dX8_ask_122 : decode cX8_ask 122 = .ok (.iaload, 1) := by decide +kernel
theorem dX8_ask_123 : decode cX8_ask 123 = .ok (.ireturn, 1) := by decide +kernel
theorem dX8_ask_124 : decode cX8_ask 124 = .ok (.iload 6, 2) := by decide +kernel
theorem dX8_ask_126 : decode cX8_ask 126 = .ok (.ireturn, 1) := by decide +kernel
theorem dX8_ask_127 : decode cX8_ask 127 = .ok (.iconst (-1), 1) := by decide +kernel
theorem dX8_ask_128 : decode cX8_ask 128 = .ok (.ireturn, 1) := by decide +kernel
theorem dX8_compose_0 : decode cX8_compose 0 = .ok (.iconst 0, 1) := by decide +kernel
theorem dX8_compose_1 : decode cX8_compose 1 = .ok (.istore_n 1, 1) := by decide +kernel
theorem dX8_compose_2 : decode cX8_compose 2 = .ok (.iconst 0, 1) := by decide +kernel
theorem dX8_compose_3 : decode cX8_compose 3 = .ok (.istore_n 2, 1) := by decide +kernel
theorem dX8_compose_4 : decode cX8_compose 4 = .ok (.iload_n 2, 1) := by decide +kernel
theorem dX8_compose_5 : decode cX8_compose 5 = .ok (.aload_n 0, 1) := by decide +kernel
theorem dX8_compose_6 : decode cX8_compose 6 = .ok (.getfield 40, 3) := by decide +kernel
theorem dX8_compose_9 : decode cX8_compose 9 = .ok (.getfield 87, 3) := by decide +kernel
theorem dX8_compose_12 : decode cX8_compose 12 = .ok (.if_icmp .ge 77, 3) := by decide +kernel
theorem dX8_compose_15 : decode cX8_compose 15 = .ok (.aload_n 0, 1) := by decide +kernel
theorem dX8_compose_16 : decode cX8_compose 16 = .ok (.getfield 40, 3) := by decide +kernel
theorem dX8_compose_19 : decode cX8_compose 19 = .ok (.iload_n 2, 1) := by decide +kernel
theorem dX8_compose_20 : decode cX8_compose 20 = .ok (.invokevirtual 146, 3) := by decide +kernel
theorem dX8_compose_23 : decode cX8_compose 23 = .ok (.ifCond .eq 60, 3) := by decide +kernel
theorem dX8_compose_26 : decode cX8_compose 26 = .ok (.aload_n 0, 1) := by decide +kernel
theorem dX8_compose_27 : decode cX8_compose 27 = .ok (.getfield 44, 3) := by decide +kernel
theorem dX8_compose_30 : decode cX8_compose 30 = .ok (.aload_n 0, 1) := by decide +kernel
theorem dX8_compose_31 : decode cX8_compose 31 = .ok (.getfield 40, 3) := by decide +kernel
theorem dX8_compose_34 : decode cX8_compose 34 = .ok (.getfield 137, 3) := by decide +kernel
theorem dX8_compose_37 : decode cX8_compose 37 = .ok (.iload_n 2, 1) := by decide +kernel
theorem dX8_compose_38 : decode cX8_compose 38 = .ok (.iaload, 1) := by decide +kernel
theorem dX8_compose_39 : decode cX8_compose 39 = .ok (.aload_n 0, 1) := by decide +kernel
theorem dX8_compose_40 : decode cX8_compose 40 = .ok (.getfield 40, 3) := by decide +kernel
theorem dX8_compose_43 : decode cX8_compose 43 = .ok (.getfield 140, 3) := by decide +kernel
theorem dX8_compose_46 : decode cX8_compose 46 = .ok (.iload_n 2, 1) := by decide +kernel
theorem dX8_compose_47 : decode cX8_compose 47 = .ok (.iaload, 1) := by decide +kernel
theorem dX8_compose_48 : decode cX8_compose 48 = .ok (.invokevirtual 129, 3) := by decide +kernel
theorem dX8_compose_51 : decode cX8_compose 51 = .ok (.istore_n 3, 1) := by decide +kernel
theorem dX8_compose_52 : decode cX8_compose 52 = .ok (.iload_n 3, 1) := by decide +kernel
theorem dX8_compose_53 : decode cX8_compose 53 = .ok (.ifCond .ge 14, 3) := by decide +kernel
theorem dX8_compose_56 : decode cX8_compose 56 = .ok (.aload_n 0, 1) := by decide +kernel
theorem dX8_compose_57 : decode cX8_compose 57 = .ok (.getfield 40, 3) := by decide +kernel
theorem dX8_compose_60 : decode cX8_compose 60 = .ok (.iload_n 2, 1) := by decide +kernel
theorem dX8_compose_61 : decode cX8_compose 61 = .ok (.invokevirtual 150, 3) := by decide +kernel
theorem dX8_compose_64 : decode cX8_compose 64 = .ok (.goto 19, 3) := by decide +kernel
theorem dX8_compose_67 : decode cX8_compose 67 = .ok (.aload_n 0, 1) := by decide +kernel
theorem dX8_compose_68 : decode cX8_compose 68 = .ok (.getfield 40, 3) := by decide +kernel
theorem dX8_compose_71 : decode cX8_compose 71 = .ok (.iload_n 2, 1) := by decide +kernel
theorem dX8_compose_72 : decode cX8_compose 72 = .ok (.aload_n 0, 1) := by decide +kernel
theorem dX8_compose_73 : decode cX8_compose 73 = .ok (.getfield 44, 3) := by decide +kernel
theorem dX8_compose_76 : decode cX8_compose 76 = .ok (.iload_n 3, 1) := by decide +kernel
theorem dX8_compose_77 : decode cX8_compose 77 = .ok (.invokevirtual 153, 3) := by decide +kernel
theorem dX8_compose_80 : decode cX8_compose 80 = .ok (.iinc 1 1, 3) := by decide +kernel
theorem dX8_compose_83 : decode cX8_compose 83 = .ok (.iinc 2 1, 3) := by decide +kernel
theorem dX8_compose_86 : decode cX8_compose 86 = .ok (.goto (-82), 3) := by decide +kernel
theorem dX8_compose_89 : decode cX8_compose 89 = .ok (.iload_n 1, 1) := by decide +kernel
theorem dX8_compose_90 : decode cX8_compose 90 = .ok (.ireturn, 1) := by decide +kernel
theorem dX8_size_0 : decode cX8_size 0 = .ok (.aload_n 0, 1) := by decide +kernel
theorem dX8_size_1 : decode cX8_size 1 = .ok (.iload_n 1, 1) := by decide +kernel
theorem dX8_size_2 : decode cX8_size 2 = .ok (.invokevirtual 69, 3) := by decide +kernel
theorem dX8_size_5 : decode cX8_size 5 = .ok (.astore_n 2, 1) := by decide +kernel
theorem dX8_size_6 : decode cX8_size 6 = .ok (.aload_n 2, 1) := by decide +kernel
theorem dX8_size_7 : decode cX8_size 7 = .ok (.ifnonnull 7, 3) := by decide +kernel
theorem dX8_size_10 : decode cX8_size 10 = .ok (.iconst (-1), 1) := by decide +kernel
theorem dX8_size_11 : decode cX8_size 11 = .ok (.goto 7, 3) := by decide +kernel
theorem dX8_size_14 : decode cX8_size 14 = .ok (.aload_n 2, 1) := by decide +kernel
theorem dX8_size_15 : decode cX8_size 15 = .ok (.getfield 87, 3) := by decide +kernel
theorem dX8_size_18 : decode cX8_size 18 = .ok (.ireturn, 1) := by decide +kernel
theorem dX8_clear_0 : decode cX8_clear 0 = .ok (.aload_n 0, 1) := by decide +kernel
theorem dX8_clear_1 : decode cX8_clear 1 = .ok (.iload_n 1, 1) := by decide +kernel
theorem dX8_clear_2 : decode cX8_clear 2 = .ok (.invokevirtual 69, 3) := by decide +kernel
theorem dX8_clear_5 : decode cX8_clear 5 = .ok (.astore_n 2, 1) := by decide +kernel
theorem dX8_clear_6 : decode cX8_clear 6 = .ok (.aload_n 2, 1) := by decide +kernel
theorem dX8_clear_7 : decode cX8_clear 7 = .ok (.ifnonnull 5, 3) := by decide +kernel
theorem dX8_clear_10 : decode cX8_clear 10 = .ok (.iconst 0, 1) := by decide +kernel
theorem dX8_clear_11 : decode cX8_clear 11 = .ok (.ireturn, 1) := by decide +kernel
theorem dX8_clear_12 : decode cX8_clear 12 = .ok (.aload_n 2, 1) := by decide +kernel
theorem dX8_clear_13 : decode cX8_clear 13 = .ok (.iconst 0, 1) := by decide +kernel
theorem dX8_clear_14 : decode cX8_clear 14 = .ok (.putfield 87, 3) := by decide +kernel
theorem dX8_clear_17 : decode cX8_clear 17 = .ok (.iconst 1, 1) := by decide +kernel
theorem dX8_clear_18 : decode cX8_clear 18 = .ok (.ireturn, 1) := by decide +kernel
theorem dX8_tableOf_0 : decode cX8_tableOf 0 = .ok (.iload_n 1, 1) := by decide +kernel
theorem dX8_tableOf_1 : decode cX8_tableOf 1 = .ok (.ifCond .ne 8, 3) := by decide +kernel
theorem dX8_tableOf_4 : decode cX8_tableOf 4 = .ok (.aload_n 0, 1) := by decide +kernel
theorem dX8_tableOf_5 : decode cX8_tableOf 5 = .ok (.getfield 40, 3) := by decide +kernel
theorem dX8_tableOf_8 : decode cX8_tableOf 8 = .ok (.areturn, 1) := by decide +kernel
theorem dX8_tableOf_9 : decode cX8_tableOf 9 = .ok (.iload_n 1, 1) := by decide +kernel
theorem dX8_tableOf_10 : decode cX8_tableOf 10 = .ok (.iconst 1, 1) := by decide +kernel
theorem dX8_tableOf_11 : decode cX8_tableOf 11 = .ok (.if_icmp .ne 10, 3) := by decide +kernel
theorem dX8_tableOf_14 : decode cX8_tableOf 14 = .ok (.aload_n 0, 1) := by decide +kernel
theorem dX8_tableOf_15 : decode cX8_tableOf 15 = .ok (.getfield 44, 3) := by decide +kernel
theorem dX8_tableOf_18 : decode cX8_tableOf 18 = .ok (.goto 4, 3) := by decide +kernel
theorem dX8_tableOf_21 : decode cX8_tableOf 21 = .ok (.aconst_null, 1) := by decide +kernel
theorem dX8_tableOf_22 : decode cX8_tableOf 22 = .ok (.areturn, 1) := by decide +kernel
theorem dX8_isWithin_0 : decode cX8_isWithin 0 = .ok (.lload_n 0, 1) := by decide +kernel
theorem dX8_isWithin_1 : decode cX8_isWithin 1 = .ok (.lconst 0, 1) := by decide +kernel
theorem dX8_isWithin_2 : decode cX8_isWithin 2 = .ok (.lcmp, 1) := by decide +kernel
theorem dX8_isWithin_3 : decode cX8_isWithin 3 = .ok (.ifCond .lt 14, 3) := by decide +kernel
theorem dX8_isWithin_6 : decode cX8_isWithin 6 = .ok (.lload_n 0, 1) := by decide +kernel
theorem dX8_isWithin_7 : decode cX8_isWithin 7 = .ok (.iload_n 2, 1) := by decide +kernel
theorem dX8_isWithin_8 : decode cX8_isWithin 8 = .ok (.i2l, 1) := by decide +kernel
theorem dX8_isWithin_9 : decode cX8_isWithin 9 = .ok (.lcmp, 1) := by decide +kernel
theorem dX8_isWithin_10 : decode cX8_isWithin 10 = .ok (.ifCond .gt 7, 3) := by decide +kernel
theorem dX8_isWithin_13 : decode cX8_isWithin 13 = .ok (.iconst 1, 1) := by decide +kernel
theorem dX8_isWithin_14 : decode cX8_isWithin 14 = .ok (.goto 4, 3) := by decide +kernel
theorem dX8_isWithin_17 : decode cX8_isWithin 17 = .ok (.iconst 0, 1) := by decide +kernel
theorem dX8_isWithin_18 : decode cX8_isWithin 18 = .ok (.ireturn, 1) := by decide +kernel
