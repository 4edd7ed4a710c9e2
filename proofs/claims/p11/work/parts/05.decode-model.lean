theorem dX9_init_0 : decode cX9_init 0 = .ok (.aload_n 0, 1) := by decide +kernel
theorem dX9_init_1 : decode cX9_init 1 = .ok (.invokespecial 1, 3) := by decide +kernel
theorem dX9_init_4 : decode cX9_init 4 = .ok (.aload_n 0, 1) := by decide +kernel
theorem dX9_init_5 : decode cX9_init 5 = .ok (.iconst 0, 1) := by decide +kernel
theorem dX9_init_6 : decode cX9_init 6 = .ok (.putfield 7, 3) := by decide +kernel
theorem dX9_init_9 : decode cX9_init 9 = .ok (.aload_n 0, 1) := by decide +kernel
theorem dX9_init_10 : decode cX9_init 10 = .ok (.sipush 3600, 3) := by decide +kernel
theorem dX9_init_13 : decode cX9_init 13 = .ok (.newarray .int, 2) := by decide +kernel
theorem dX9_init_15 : decode cX9_init 15 = .ok (.putfield 13, 3) := by decide +kernel
theorem dX9_init_18 : decode cX9_init 18 = .ok (.aload_n 0, 1) := by decide +kernel
theorem dX9_init_19 : decode cX9_init 19 = .ok (.iconst 2, 1) := by decide +kernel
theorem dX9_init_20 : decode cX9_init 20 = .ok (.newarray .int, 2) := by decide +kernel
theorem dX9_init_22 : decode cX9_init 22 = .ok (.putfield 17, 3) := by decide +kernel
theorem dX9_init_25 : decode cX9_init 25 = .ok (.aload_n 0, 1) := by decide +kernel
theorem dX9_init_26 : decode cX9_init 26 = .ok (.sipush 1800, 3) := by decide +kernel
theorem dX9_init_29 : decode cX9_init 29 = .ok (.newarray .int, 2) := by decide +kernel
theorem dX9_init_31 : decode cX9_init 31 = .ok (.putfield 20, 3) := by decide +kernel
theorem dX9_init_34 : decode cX9_init 34 = .ok (.aload_n 0, 1) := by decide +kernel
theorem dX9_init_35 : decode cX9_init 35 = .ok (.iconst 0, 1) := by decide +kernel
theorem dX9_init_36 : decode cX9_init 36 = .ok (.putfield 23, 3) := by decide +kernel
theorem dX9_init_39 : decode cX9_init 39 = .ok (.aload_n 0, 1) := by decide +kernel
theorem dX9_init_40 : decode cX9_init 40 = .ok (.sipush 3000, 3) := by decide +kernel
theorem dX9_init_43 : decode cX9_init 43 = .ok (.newarray .byte, 2) := by decide +kernel
theorem dX9_init_45 : decode cX9_init 45 = .ok (.putfield 26, 3) := by decide +kernel
theorem dX9_init_48 : decode cX9_init 48 = .ok (.aload_n 0, 1) := by decide +kernel
theorem dX9_init_49 : decode cX9_init 49 = .ok (.iconst 0, 1) := by decide +kernel
theorem dX9_init_50 : decode cX9_init 50 = .ok (.putfield 30, 3) := by decide +kernel
theorem dX9_init_53 : decode cX9_init 53 = .ok (.aload_n 0, 1) := by decide +kernel
theorem dX9_init_54 : decode cX9_init 54 = .ok (.sipush 6000, 3) := by decide +kernel
theorem dX9_init_57 : decode cX9_init 57 = .ok (.newarray .byte, 2) := by decide +kernel
theorem dX9_init_59 : decode cX9_init 59 = .ok (.putfield 33, 3) := by decide +kernel
theorem dX9_init_62 : decode cX9_init 62 = .ok (.aload_n 0, 1) := by decide +kernel
theorem dX9_init_63 : decode cX9_init 63 = .ok (.iconst 0, 1) := by decide +kernel
theorem dX9_init_64 : decode cX9_init 64 = .ok (.putfield 36, 3) := by decide +kernel
theorem dX9_init_67 : decode cX9_init 67 = .ok (.aload_n 0, 1) := by decide +kernel
theorem dX9_init_68 : decode cX9_init 68 = .ok (.iconst 0, 1) := by decide +kernel
theorem dX9_init_69 : decode cX9_init 69 = .ok (.putfield 39, 3) := by decide +kernel
theorem dX9_init_72 : decode cX9_init 72 = .ok (.aload_n 0, 1) := by decide +kernel
theorem dX9_init_73 : decode cX9_init 73 = .ok (.iconst 0, 1) := by decide +kernel
theorem dX9_init_74 : decode cX9_init 74 = .ok (.putfield 42, 3) := by decide +kernel
theorem dX9_init_77 : decode cX9_init 77 = .ok (.aload_n 0, 1) := by decide +kernel
theorem dX9_init_78 : decode cX9_init 78 = .ok (.bipush 6, 2) := by decide +kernel
theorem dX9_init_80 : decode cX9_init 80 = .ok (.newarray .long, 2) := by decide +kernel
theorem dX9_init_82 : decode cX9_init 82 = .ok (.putfield 45, 3) := by decide +kernel
theorem dX9_init_85 : decode cX9_init 85 = .ok (.aload_n 0, 1) := by decide +kernel
theorem dX9_init_86 : decode cX9_init 86 = .ok (.iconst 0, 1) := by decide +kernel
theorem dX9_init_87 : decode cX9_init 87 = .ok (.putfield 49, 3) := by decide +kernel
theorem dX9_init_90 : decode cX9_init 90 = .ok (.aload_n 0, 1) := by decide +kernel
theorem dX9_init_91 : decode cX9_init 91 = .ok (.bipush 6, 2) := by decide +kernel
theorem dX9_init_93 : decode cX9_init 93 = .ok (.newarray .long, 2) := by decide +kernel
theorem dX9_init_95 : decode cX9_init 95 = .ok (.putfield 52, 3) := by decide +kernel
theorem dX9_init_98 : decode cX9_init 98 = .ok (.aload_n 0, 1) := by decide +kernel
theorem dX9_init_99 : decode cX9_init 99 = .ok (.iconst 1, 1) := by decide +kernel
theorem dX9_init_100 : decode cX9_init 100 = .ok (.putfield 55, 3) := by decide +kernel
theorem dX9_init_103 : decode cX9_init 103 = .ok (.aload_n 0, 1) := by decide +kernel
theorem dX9_init_104 : decode cX9_init 104 = .ok (.sipush 6000, 3) := by decide +kernel
theorem dX9_init_107 : decode cX9_init 107 = .ok (.newarray .byte, 2) := by decide +kernel
theorem dX9_init_109 : decode cX9_init 109 = .ok (.putfield 59, 3) := by decide +kernel
theorem dX9_init_112 : decode cX9_init 112 = .ok (.aload_n 0, 1) := by decide +kernel
theorem dX9_init_113 : decode cX9_init 113 = .ok (.iconst 0, 1) := by decide +kernel
theorem dX9_init_114 : decode cX9_init 114 = .ok (.putfield 62, 3) := by decide +kernel
theorem dX9_init_117 : decode cX9_init 117 = .ok (.return_, 1) := by decide +kernel
theorem dX9_feed_0 : decode cX9_feed 0 = .ok (.aload_n 0, 1) := by decide +kernel
theorem dX9_feed_1 : decode cX9_feed 1 = .ok (.iconst 0, 1) := by decide +kernel
theorem dX9_feed_2 : decode cX9_feed 2 = .ok (.putfield 7, 3) := by decide +kernel
theorem dX9_feed_5 : decode cX9_feed 5 = .ok (.aload_n 0, 1) := by decide +kernel
theorem dX9_feed_6 : decode cX9_feed 6 = .ok (.getfield 30, 3) := by decide +kernel
theorem dX9_feed_9 : decode cX9_feed 9 = .ok (.bipush 20, 2) := by decide +kernel
theorem dX9_feed_11 : decode cX9_feed 11 = .ok (.iadd, 1) := by decide +kernel
theorem dX9_feed_12 : decode cX9_feed 12 = .ok (.sipush 3000, 3) := by decide +kernel
theorem dX9_feed_15 : decode cX9_feed 15 = .ok (.if_icmp .le 5, 3) := by decide +kernel
theorem dX9_feed_18 : decode cX9_feed 18 = .ok (.iconst 0, 1) := by decide +kernel
theorem dX9_feed_19 : decode cX9_feed 19 = .ok (.ireturn, 1) := by decide +kernel
theorem dX9_feed_20 : decode cX9_feed 20 = .ok (.iconst 0, 1) := by decide +kernel
theorem dX9_feed_21 : decode cX9_feed 21 = .ok (.istore 6, 2) := by decide +kernel
theorem dX9_feed_23 : decode cX9_feed 23 = .ok (.iload 6, 2) := by decide +kernel
theorem dX9_feed_25 : decode cX9_feed 25 = .ok (.bipush 20, 2) := by decide +kernel
theorem dX9_feed_27 : decode cX9_feed 27 = .ok (.if_icmp .ge 86, 3) := by decide +kernel
theorem dX9_feed_30 : decode cX9_feed 30 = .ok (.iload_n 1, 1) := by decide +kernel
theorem dX9_feed_31 : decode cX9_feed 31 = .ok (.istore 7, 2) := by decide +kernel
theorem dX9_feed_33 : decode cX9_feed 33 = .ok (.iload 6, 2) := by decide +kernel
theorem dX9_feed_35 : decode cX9_feed 35 = .ok (.iconst 4, 1) := by decide +kernel
theorem dX9_feed_36 : decode cX9_feed 36 = .ok (.if_icmp .lt 6, 3) := by decide +kernel
theorem dX9_feed_39 : decode cX9_feed 39 = .ok (.iload_n 2, 1) := by decide +kernel
theorem dX9_feed_40 : decode cX9_feed 40 = .ok (.istore 7, 2) := by decide +kernel
theorem dX9_feed_42 : decode cX9_feed 42 = .ok (.iload 6, 2) := by decide +kernel
theorem dX9_feed_44 : decode cX9_feed 44 = .ok (.bipush 8, 2) := by decide +kernel
theorem dX9_feed_46 : decode cX9_feed 46 = .ok (.if_icmp .lt 6, 3) := by decide +kernel
theorem dX9_feed_49 : decode cX9_feed 49 = .ok (.iload_n 3, 1) := by decide +kernel
theorem dX9_feed_50 : decode cX9_feed 50 = .ok (.istore 7, 2) := by decide +kernel
theorem dX9_feed_52 : decode cX9_feed 52 = .ok (.iload 6, 2) := by decide +kernel
theorem dX9_feed_54 : decode cX9_feed 54 = .ok (.bipush 12, 2) := by decide +kernel
theorem dX9_feed_56 : decode cX9_feed 56 = .ok (.if_icmp .lt 7, 3) := by decide +kernel
theorem dX9_feed_59 : decode cX9_feed 59 = .ok (.iload 4, 2) := by decide +kernel
theorem dX9_feed_61 : decode cX9_feed 61 = .ok (.istore 7, 2) := by decide +kernel
theorem dX9_feed_63 : decode cX9_feed 63 = .ok (.iload 6, 2) := by decide +kernel
theorem dX9_feed_65 : decode cX9_feed 65 = .ok (.bipush 16, 2) := by decide +kernel
theorem dX9_feed_67 : decode cX9_feed 67 = .ok (.if_icmp .lt 7, 3) := by decide +kernel
theorem dX9_feed_70 : decode cX9_feed 70 = .ok (.iload 5, 2) := by decide +kernel
theorem dX9_feed_72 : decode cX9_feed 72 = .ok (.istore 7, 2) := by decide +kernel
theorem dX9_feed_74 : decode cX9_feed 74 = .ok (.aload_n 0, 1) := by decide +kernel
theorem dX9_feed_75 : decode cX9_feed 75 = .ok (.getfield 26, 3) := by decide +kernel
theorem dX9_feed_78 : decode cX9_feed 78 = .ok (.aload_n 0, 1) := by decide +kernel
theorem dX9_feed_79 : decode cX9_feed 79 = .ok (.getfield 30, 3) := by decide +kernel
theorem dX9_feed_82 : decode cX9_feed 82 = .ok (.iload 7, 2) := by decide +kernel
theorem dX9_feed_84 : decode cX9_feed 84 = .ok (.bipush 24, 2) := by decide +kernel
theorem dX9_feed_86 : decode cX9_feed 86 = .ok (.bipush 8, 2) := by decide +kernel
theorem dX9_feed_88 : decode cX9_feed 88 = .ok (.iload 6, 2) := by decide +kernel
theorem dX9_feed_90 : decode cX9_feed 90 = .ok (.iconst 3, 1) := by decide +kernel
theorem dX9_feed_91 : decode cX9_feed 91 = .ok (.iand, 1) := by decide +kernel
theorem dX9_feed_92 : decode cX9_feed 92 = .ok (.imul, 1) := by decide +kernel
theorem dX9_feed_93 : decode cX9_feed 93 = .ok (.isub, 1) := by decide +kernel
theorem dX9_feed_94 : decode cX9_feed 94 = .ok (.ishr, 1) := by decide +kernel
theorem dX9_feed_95 : decode cX9_feed 95 = .ok (.i2b, 1) := by decide +kernel
theorem dX9_feed_96 : decode cX9_feed 96 = .ok (.bastore, 1) := by decide +kernel
theorem dX9_feed_97 : decode cX9_feed 97 = .ok (.aload_n 0, 1) := by decide +kernel
theorem dX9_feed_98 : decode cX9_feed 98 = .ok (.dup, 1) := by decide +kernel
theorem dX9_feed_99 : decode cX9_feed 99 = .ok (.getfield 30, 3) := by decide +kernel
theorem dX9_feed_102 : decode cX9_feed 102 = .ok (.iconst 1, 1) := by decide +kernel
theorem dX9_feed_103 : decode cX9_feed 103 = .ok (.iadd, 1) := by decide +kernel
theorem dX9_feed_104 : decode cX9_feed 104 = .ok (.putfield 30, 3) := by decide +kernel
theorem dX9_feed_107 : decode cX9_feed 107 = .ok (.iinc 6 1, 3) := by decide +kernel
theorem dX9_feed_110 : decode cX9_feed 110 = .ok (.goto (-87), 3) := by decide +kernel
theorem dX9_feed_113 : decode cX9_feed 113 = .ok (.iconst 1, 1) := by decide +kernel
theorem dX9_feed_114 : decode cX9_feed 114 = .ok (.ireturn, 1) := by decide +kernel
theorem dX9_end_0 : decode cX9_end 0 = .ok (.aload_n 0, 1) := by decide +kernel
theorem dX9_end_1 : decode cX9_end 1 = .ok (.iconst 0, 1) := by decide +kernel
theorem dX9_end_2 : decode cX9_end 2 = .ok (.putfield 7, 3) := by decide +kernel
theorem dX9_end_5 : decode cX9_end 5 = .ok (.iload_n 1, 1) := by decide +kernel
theorem dX9_end_6 : decode cX9_end 6 = .ok (.ifCond .lt 11, 3) := by decide +kernel
theorem dX9_end_9 : decode cX9_end 9 = .ok (.iload_n 1, 1) := by decide +kernel
theorem dX9_end_10 : decode cX9_end 10 = .ok (.aload_n 0, 1) := by decide +kernel
theorem dX9_end_11 : decode cX9_end 11 = .ok (.getfield 30, 3) := by decide +kernel
theorem dX9_end_14 : decode cX9_end 14 = .ok (.if_icmp .le 5, 3) := by decide +kernel
theorem dX9_end_17 : decode cX9_end 17 = .ok (.iconst 0, 1) := by decide +kernel
theorem dX9_end_18 : decode cX9_end 18 = .ok (.ireturn, 1) := by decide +kernel
theorem dX9_end_19 : decode cX9_end 19 = .ok (.aload_n 0, 1) := by decide +kernel
theorem dX9_end_20 : decode cX9_end 20 = .ok (.iload_n 1, 1) := by decide +kernel
theorem dX9_end_21 : decode cX9_end 21 = .ok (.putfield 30, 3) := by decide +kernel
theorem dX9_end_24 : decode cX9_end 24 = .ok (.iconst 1, 1) := by decide +kernel
theorem dX9_end_25 : decode cX9_end 25 = .ok (.ireturn, 1) := by decide +kernel
theorem dX9_worth_0 : decode cX9_worth 0 = .ok (.iload_n 0, 1) := by decide +kernel
theorem dX9_worth_1 : decode cX9_worth 1 = .ok (.bipush 65, 2) := by decide +kernel
theorem dX9_worth_3 : decode cX9_worth 3 = .ok (.if_icmp .lt 14, 3) := by decide +kernel
theorem dX9_worth_6 : decode cX9_worth 6 = .ok (.iload_n 0, 1) := by decide +kernel
theorem dX9_worth_7 : decode cX9_worth 7 = .ok (.bipush 90, 2) := by decide +kernel
theorem dX9_worth_9 : decode cX9_worth 9 = .ok (.if_icmp .gt 8, 3) := by decide +kernel
theorem dX9_worth_12 : decode cX9_worth 12 = .ok (.iload_n 0, 1) := by decide +kernel
theorem dX9_worth_13 : decode cX9_worth 13 = .ok (.bipush 65, 2) := by decide +kernel
theorem dX9_worth_15 : decode cX9_worth 15 = .ok (.isub, 1) := by decide +kernel
theorem dX9_worth_16 : decode cX9_worth 16 = .ok (.ireturn, 1) := by decide +kernel
theorem dX9_worth_17 : decode cX9_worth 17 = .ok (.iload_n 0, 1) := by decide +kernel
theorem dX9_worth_18 : decode cX9_worth 18 = .ok (.bipush 97, 2) := by decide +kernel
theorem dX9_worth_20 : decode cX9_worth 20 = .ok (.if_icmp .lt 17, 3) := by decide +kernel
theorem dX9_worth_23 : decode cX9_worth 23 = .ok (.iload_n 0, 1) := by decide +kernel
theorem dX9_worth_24 : decode cX9_worth 24 = .ok (.bipush 122, 2) := by decide +kernel
theorem dX9_worth_26 : decode cX9_worth 26 = .ok (.if_icmp .gt 11, 3) := by decide +kernel
theorem dX9_worth_29 : decode cX9_worth 29 = .ok (.iload_n 0, 1) := by decide +kernel
theorem dX9_worth_30 : decode cX9_worth 30 = .ok (.bipush 97, 2) := by decide +kernel
theorem dX9_worth_32 : decode cX9_worth 32 = .ok (.isub, 1) := by decide +kernel
theorem dX9_worth_33 : decode cX9_worth 33 = .ok (.bipush 26, 2) := by decide +kernel
theorem dX9_worth_35 : decode cX9_worth 35 = .ok (.iadd, 1) := by decide +kernel
theorem dX9_worth_36 : decode cX9_worth 36 = .ok (.ireturn, 1) := by decide +kernel
theorem dX9_worth_37 : decode cX9_worth 37 = .ok (.iload_n 0, 1) := by decide +kernel
theorem dX9_worth_38 : decode cX9_worth 38 = .ok (.bipush 48, 2) := by decide +kernel
theorem dX9_worth_40 : decode cX9_worth 40 = .ok (.if_icmp .lt 17, 3) := by decide +kernel
theorem dX9_worth_43 : decode cX9_worth 43 = .ok (.iload_n 0, 1) := by decide +kernel
theorem dX9_worth_44 : decode cX9_worth 44 = .ok (.bipush 57, 2) := by decide +kernel
theorem dX9_worth_46 : decode cX9_worth 46 = .ok (.if_icmp .gt 11, 3) := by decide +kernel
theorem dX9_worth_49 : decode cX9_worth 49 = .ok (.iload_n 0, 1) := by decide +kernel
theorem dX9_worth_50 : decode cX9_worth 50 = .ok (.bipush 48, 2) := by decide +kernel
theorem dX9_worth_52 : decode cX9_worth 52 = .ok (.isub, 1) := by decide +kernel
theorem dX9_worth_53 : decode cX9_worth 53 = .ok (.bipush 52, 2) := by decide +kernel
theorem dX9_worth_55 : decode cX9_worth 55 = .ok (.iadd, 1) := by decide +kernel
theorem dX9_worth_56 : decode cX9_worth 56 = .ok (.ireturn, 1) := by decide +kernel
theorem dX9_worth_57 : decode cX9_worth 57 = .ok (.iload_n 0, 1) := by decide +kernel
theorem dX9_worth_58 : decode cX9_worth 58 = .ok (.bipush 43, 2) := by decide +kernel
theorem dX9_worth_60 : decode cX9_worth 60 = .ok (.if_icmp .ne 6, 3) := by decide +kernel
theorem dX9_worth_63 : decode cX9_worth 63 = .ok (.bipush 62, 2) := by decide +kernel
theorem dX9_worth_65 : decode cX9_worth 65 = .ok (.ireturn, 1) := by decide +kernel
theorem dX9_worth_66 : decode cX9_worth 66 = .ok (.iload_n 0, 1) := by decide +kernel
theorem dX9_worth_67 : decode cX9_worth 67 = .ok (.bipush 47, 2) := by decide +kernel
theorem dX9_worth_69 : decode cX9_worth 69 = .ok (.if_icmp .ne 6, 3) := by decide +kernel
theorem dX9_worth_72 : decode cX9_worth 72 = .ok (.bipush 63, 2) := by decide +kernel
theorem dX9_worth_74 : decode cX9_worth 74 = .ok (.ireturn, 1) := by decide +kernel
theorem dX9_worth_75 : decode cX9_worth 75 = .ok (.iconst (-1), 1) := by decide +kernel
theorem dX9_worth_76 : decode cX9_worth 76 = .ok (.ireturn, 1) := by decide +kernel
theorem dX9_letter_0 : decode cX9_letter 0 = .ok (.iload_n 0, 1) := by decide +kernel
theorem dX9_letter_1 : decode cX9_letter 1 = .ok (.bipush 26, 2) := by decide +kernel
theorem dX9_letter_3 : decode cX9_letter 3 = .ok (.if_icmp .ge 8, 3) := by decide +kernel
theorem dX9_letter_6 : decode cX9_letter 6 = .ok (.bipush 65, 2) := by decide +kernel
theorem dX9_letter_8 : decode cX9_letter 8 = .ok (.iload_n 0, 1) := by decide +kernel
theorem dX9_letter_9 : decode cX9_letter 9 = .ok (.iadd, 1) := by decide +kernel
theorem dX9_letter_10 : decode cX9_letter 10 = .ok (.ireturn, 1) := by decide +kernel
theorem dX9_letter_11 : decode cX9_letter 11 = .ok (.iload_n 0, 1) := by decide +kernel
theorem dX9_letter_12 : decode cX9_letter 12 = .ok (.bipush 52, 2) := by decide +kernel
theorem dX9_letter_14 : decode cX9_letter 14 = .ok (.if_icmp .ge 11, 3) := by decide +kernel
theorem dX9_letter_17 : decode cX9_letter 17 = .ok (.bipush 97, 2) := by decide +kernel
theorem dX9_letter_19 : decode cX9_letter 19 = .ok (.iload_n 0, 1) := by decide +kernel
theorem dX9_letter_20 : decode cX9_letter 20 = .ok (.iadd, 1) := by decide +kernel
theorem dX9_letter_21 : decode cX9_letter 21 = .ok (.bipush 26, 2) := by decide +kernel
theorem dX9_letter_23 : decode cX9_letter 23 = .ok (.isub, 1) := by decide +kernel
theorem dX9_letter_24 : decode cX9_letter 24 = .ok (.ireturn, 1) := by decide +kernel
theorem dX9_letter_25 : decode cX9_letter 25 = .ok (.iload_n 0, 1) := by decide +kernel
theorem dX9_letter_26 : decode cX9_letter 26 = .ok (.bipush 62, 2) := by decide +kernel
theorem dX9_letter_28 : decode cX9_letter 28 = .ok (.if_icmp .ge 11, 3) := by decide +kernel
theorem dX9_letter_31 : decode cX9_letter 31 = .ok (.bipush 48, 2) := by decide +kernel
theorem dX9_letter_33 : decode cX9_letter 33 = .ok (.iload_n 0, 1) := by decide +kernel
theorem dX9_letter_34 : decode cX9_letter 34 = .ok (.iadd, 1) := by decide +kernel
theorem dX9_letter_35 : decode cX9_letter 35 = .ok (.bipush 52, 2) := by decide +kernel
theorem dX9_letter_37 : decode cX9_letter 37 = .ok (.isub, 1) := by decide +kernel
theorem dX9_letter_38 : decode cX9_letter 38 = .ok (.ireturn, 1) := by decide +kernel
theorem dX9_letter_39 : decode cX9_letter 39 = .ok (.iload_n 0, 1) := by decide +kernel
theorem dX9_letter_40 : decode cX9_letter 40 = .ok (.bipush 62, 2) := by decide +kernel
theorem dX9_letter_42 : decode cX9_letter 42 = .ok (.if_icmp .ne 8, 3) := by decide +kernel
theorem dX9_letter_45 : decode cX9_letter 45 = .ok (.bipush 43, 2) := by decide +kernel
theorem dX9_letter_47 : decode cX9_letter 47 = .ok (.goto 5, 3) := by decide +kernel
theorem dX9_letter_50 : decode cX9_letter 50 = .ok (.bipush 47, 2) := by decide +kernel
theorem dX9_letter_52 : decode cX9_letter 52 = .ok (.ireturn, 1) := by decide +kernel
theorem dX9_fails_0 : decode cX9_fails 0 = .ok (.aload_n 0, 1) := by decide +kernel
theorem dX9_fails_1 : decode cX9_fails 1 = .ok (.iload_n 1, 1) := by decide +kernel
theorem dX9_fails_2 : decode cX9_fails 2 = .ok (.putfield 39, 3) := by decide +kernel
theorem dX9_fails_5 : decode cX9_fails 5 = .ok (.aload_n 0, 1) := by decide +kernel
theorem dX9_fails_6 : decode cX9_fails 6 = .ok (.iload_n 2, 1) := by decide +kernel
theorem dX9_fails_7 : decode cX9_fails 7 = .ok (.putfield 42, 3) := by decide +kernel
theorem dX9_fails_10 : decode cX9_fails 10 = .ok (.iconst 0, 1) := by decide +kernel
theorem dX9_fails_11 : decode cX9_fails 11 = .ok (.ireturn, 1) := by decide +kernel
theorem dX9_number_0 : decode cX9_number 0 = .ok (.lconst 0, 1) := by decide +kernel
theorem dX9_number_1 : decode cX9_number 1 = .ok (.lstore_n 3, 1) := by decide +kernel
theorem dX9_number_2 : decode cX9_number 2 = .ok (.iconst 0, 1) := by decide +kernel
theorem dX9_number_3 : decode cX9_number 3 = .ok (.istore 5, 2) := by decide +kernel
theorem dX9_number_5 : decode cX9_number 5 = .ok (.iconst 0, 1) := by decide +kernel
theorem dX9_number_6 : decode cX9_number 6 = .ok (.istore 6, 2) := by decide +kernel
theorem dX9_number_8 : decode cX9_number 8 = .ok (.iload_n 1, 1) := by decide +kernel
theorem dX9_number_9 : decode cX9_number 9 = .ok (.istore 7, 2) := by decide +kernel
theorem dX9_number_11 : decode cX9_number 11 = .ok (.iconst 1, 1) := by decide +kernel
theorem dX9_number_12 : decode cX9_number 12 = .ok (.istore 8, 2) := by decide +kernel
theorem dX9_number_14 : decode cX9_number 14 = .ok (.iload 8, 2) := by decide +kernel
theorem dX9_number_16 : decode cX9_number 16 = .ok (.ifCond .eq 138, 3) := by decide +kernel
theorem dX9_number_19 : decode cX9_number 19 = .ok (.iload 7, 2) := by decide +kernel
theorem dX9_number_21 : decode cX9_number 21 = .ok (.iload_n 2, 1) := by decide +kernel
theorem dX9_number_22 : decode cX9_number 22 = .ok (.if_icmp .eq 27, 3) := by decide +kernel
theorem dX9_number_25 : decode cX9_number 25 = .ok (.aload_n 0, 1) := by decide +kernel
theorem dX9_number_26 : decode cX9_number 26 = .ok (.getfield 26, 3) := by decide +kernel
theorem dX9_number_29 : decode cX9_number 29 = .ok (.iload 7, 2) := by decide +kernel
theorem dX9_number_31 : decode cX9_number 31 = .ok (.baload, 1) := by decide +kernel
theorem dX9_number_32 : decode cX9_number 32 = .ok (.bipush 44, 2) := by decide +kernel
theorem dX9_number_34 : decode cX9_number 34 = .ok (.if_icmp .eq 15, 3) := by decide +kernel
theorem dX9_number_37 : decode cX9_number 37 = .ok (.aload_n 0, 1) := by decide +kernel
theorem dX9_number_38 : decode cX9_number 38 = .ok (.getfield 26, 3) := by decide +kernel
theorem dX9_number_41 : decode cX9_number 41 = .ok (.iload 7, 2) := by decide +kernel
theorem dX9_number_43 : decode cX9_number 43 = .ok (.baload, 1) := by decide +kernel
theorem dX9_number_44 : decode cX9_number 44 = .ok (.bipush 59, 2) := by decide +kernel
theorem dX9_number_46 : decode cX9_number 46 = .ok (.if_icmp .ne 13, 3) := by decide +kernel
theorem dX9_number_49 : decode cX9_number 49 = .ok (.aload_n 0, 1) := by decide +kernel
theorem dX9_number_50 : decode cX9_number 50 = .ok (.iconst 2, 1) := by decide +kernel
theorem dX9_number_51 : decode cX9_number 51 = .ok (.iload 7, 2) := by decide +kernel
theorem dX9_number_53 : decode cX9_number 53 = .ok (.invokevirtual 65, 3) := by decide +kernel
theorem dX9_number_56 : decode cX9_number 56 = .ok (.pop, 1) := by decide +kernel
theorem dX9_number_57 : decode cX9_number 57 = .ok (.iconst (-1), 1) := by decide +kernel
theorem dX9_number_58 : decode cX9_number 58 = .ok (.ireturn, 1) := by decide +kernel
theorem dX9_number_59 : decode cX9_number 59 = .ok (.aload_n 0, 1) := by decide +kernel
theorem dX9_number_60 : decode cX9_number 60 = .ok (.getfield 26, 3) := by decide +kernel
theorem dX9_number_63 : decode cX9_number 63 = .ok (.iload 7, 2) := by decide +kernel
theorem dX9_number_65 : decode cX9_number 65 = .ok (.baload, 1) := by decide +kernel
theorem dX9_number_66 : decode cX9_number 66 = .ok (.invokestatic 69, 3) := by decide +kernel
theorem dX9_number_69 : decode cX9_number 69 = .ok (.istore 9, 2) := by decide +kernel
theorem dX9_number_71 : decode cX9_number 71 = .ok (.iload 9, 2) := by decide +kernel
theorem dX9_number_73 : decode cX9_number 73 = .ok (.ifCond .ge 13, 3) := by decide +kernel
theorem dX9_number_76 : decode cX9_number 76 = .ok (.aload_n 0, 1) := by decide +kernel
theorem dX9_number_77 : decode cX9_number 77 = .ok (.iconst 1, 1) := by decide +kernel
theorem dX9_number_78 : decode cX9_number 78 = .ok (.iload 7, 2) := by decide +kernel
theorem dX9_number_80 : decode cX9_number 80 = .ok (.invokevirtual 65, 3) := by decide +kernel
theorem dX9_number_83 : decode cX9_number 83 = .ok (.pop, 1) := by decide +kernel
theorem dX9_number_84 : decode cX9_number 84 = .ok (.iconst (-1), 1) := by decide +kernel
theorem dX9_number_85 : decode cX9_number 85 = .ok (.ireturn, 1) := by decide +kernel
theorem dX9_number_86 : decode cX9_number 86 = .ok (.iload 9, 2) := by decide +kernel
theorem dX9_number_88 : decode cX9_number 88 = .ok (.bipush 31, 2) := by decide +kernel
theorem dX9_number_90 : decode cX9_number 90 = .ok (.iand, 1) := by decide +kernel
theorem dX9_number_91 : decode cX9_number 91 = .ok (.i2l, 1) := by decide +kernel
theorem dX9_number_92 : decode cX9_number 92 = .ok (.lstore 10, 2) := by decide +kernel
theorem dX9_number_94 : decode cX9_number 94 = .ok (.iload 5, 2) := by decide +kernel
theorem dX9_number_96 : decode cX9_number 96 = .ok (.bipush 35, 2) := by decide +kernel
theorem dX9_number_98 : decode cX9_number 98 = .ok (.if_icmp .ge 14, 3) := by decide +kernel
theorem dX9_number_101 : decode cX9_number 101 = .ok (.lload_n 3, 1) := by decide +kernel
theorem dX9_number_102 : decode cX9_number 102 = .ok (.lload 10, 2) := by decide +kernel
theorem dX9_number_104 : decode cX9_number 104 = .ok (.iload 5, 2) := by decide +kernel
theorem dX9_number_106 : decode cX9_number 106 = .ok (.lshl, 1) := by decide +kernel
theorem dX9_number_107 : decode cX9_number 107 = .ok (.lor, 1) := by decide +kernel
theorem dX9_number_108 : decode cX9_number 108 = .ok (.lstore_n 3, 1) := by decide +kernel
theorem dX9_number_109 : decode cX9_number 109 = .ok (.goto 22, 3) := by decide +kernel
theorem dX9_number_112 : decode cX9_number 112 = .ok (.iload 6, 2) := by decide +kernel
theorem dX9_number_114 : decode cX9_number 114 = .ok (.ifCond .ne 10, 3) := by decide +kernel
theorem dX9_number_117 : decode cX9_number 117 = .ok (.lload 10, 2) := by decide +kernel
theorem dX9_number_119 : decode cX9_number 119 = .ok (.lconst 0, 1) := by decide +kernel
theorem dX9_number_120 : decode cX9_number 120 = .ok (.lcmp, 1) := by decide +kernel
theorem dX9_number_121 : decode cX9_number 121 = .ok (.ifCond .eq 7, 3) := by decide +kernel
theorem dX9_number_124 : decode cX9_number 124 = .ok (.iconst 1, 1) := by decide +kernel
theorem dX9_number_125 : decode cX9_number 125 = .ok (.goto 4, 3) := by decide +kernel
theorem dX9_number_128 : decode cX9_number 128 = .ok (.iconst 0, 1) := by decide +kernel
theorem dX9_number_129 : decode cX9_number 129 = .ok (.istore 6, 2) := by decide +kernel
theorem dX9_number_131 : decode cX9_number 131 = .ok (.iinc 5 5, 3) := by decide +kernel
theorem dX9_number_134 : decode cX9_number 134 = .ok (.iload 9, 2) := by decide +kernel
theorem dX9_number_136 : decode cX9_number 136 = .ok (.bipush 31, 2) := by decide +kernel
theorem dX9_number_138 : decode cX9_number 138 = .ok (.if_icmp .le 7, 3) := by decide +kernel
theorem dX9_number_141 : decode cX9_number 141 = .ok (.iconst 1, 1) := by decide +kernel
theorem dX9_number_142 : decode cX9_number 142 = .ok (.goto 4, 3) := by decide +kernel
theorem dX9_number_145 : decode cX9_number 145 = .ok (.iconst 0, 1) := by decide +kernel
theorem dX9_number_146 : decode cX9_number 146 = .ok (.istore 8, 2) := by decide +kernel
theorem dX9_number_148 : decode cX9_number 148 = .ok (.iinc 7 1, 3) := by decide +kernel
theorem dX9_number_151 : decode cX9_number 151 = .ok (.goto (-137), 3) := by decide +kernel
theorem dX9_number_154 : decode cX9_number 154 = .ok (.iload 6, 2) := by decide +kernel
theorem dX9_number_156 : decode cX9_number 156 = .ok (.ifCond .ne 13, 3) := by decide +kernel
theorem dX9_number_159 : decode cX9_number 159 = .ok (.lload_n 3, 1) := by decide +kernel
theorem dX9_number_160 : decode cX9_number 160 = .ok (.iconst 1, 1) := by decide +kernel
theorem dX9_number_161 : decode cX9_number 161 = .ok (.lshr, 1) := by decide +kernel
theorem dX9_number_162 : decode cX9_number 162 = .ok (.ldc2_w 73, 3) := by decide +kernel
theorem dX9_number_165 : decode cX9_number 165 = .ok (.lcmp, 1) := by decide +kernel
theorem dX9_number_166 : decode cX9_number 166 = .ok (.ifCond .le 12, 3) := by decide +kernel
theorem dX9_number_169 : decode cX9_number 169 = .ok (.aload_n 0, 1) := by decide +kernel
theorem dX9_number_170 : decode cX9_number 170 = .ok (.iconst 2, 1) := by decide +kernel
theorem dX9_number_171 : decode cX9_number 171 = .ok (.iload_n 1, 1) := by decide +kernel
theorem dX9_number_172 : decode cX9_number 172 = .ok (.invokevirtual 65, 3) := by decide +kernel
theorem dX9_number_175 : decode cX9_number 175 = .ok (.pop, 1) := by decide +kernel
theorem dX9_number_176 : decode cX9_number 176 = .ok (.iconst (-1), 1) := by decide +kernel
theorem dX9_number_177 : decode cX9_number 177 = .ok (.ireturn, 1) := by decide +kernel
theorem dX9_number_178 : decode cX9_number 178 = .ok (.lload_n 3, 1) := by decide +kernel
theorem dX9_number_179 : decode cX9_number 179 = .ok (.iconst 1, 1) := by decide +kernel
theorem dX9_number_180 : decode cX9_number 180 = .ok (.lshr, 1) := by decide +kernel
theorem dX9_number_181 : decode cX9_number 181 = .ok (.lstore 9, 2) := by decide +kernel
theorem dX9_number_183 : decode cX9_number 183 = .ok (.aload_n 0, 1) := by decide +kernel
theorem dX9_number_184 : decode cX9_number 184 = .ok (.getfield 49, 3) := by decide +kernel
theorem dX9_number_187 : decode cX9_number 187 = .ok (.bipush 6, 2) := by decide +kernel
theorem dX9_number_189 : decode cX9_number 189 = .ok (.if_icmp .ge 28, 3) := by decide +kernel
theorem dX9_number_192 : decode cX9_number 192 = .ok (.aload_n 0, 1) := by decide +kernel
theorem dX9_number_193 : decode cX9_number 193 = .ok (.getfield 45, 3) := by decide +kernel
theorem dX9_number_196 : decode cX9_number 196 = .ok (.aload_n 0, 1) := by decide +kernel
theorem dX9_number_197 : decode cX9_number 197 = .ok (.getfield 49, 3) := by decide +kernel
theorem dX9_number_200 : decode cX9_number 200 = .ok (.lload_n 3, 1) := by decide +kernel
theorem dX9_number_201 : decode cX9_number 201 = .ok (.lconst 1, 1) := by decide +kernel
theorem dX9_number_202 : decode cX9_number 202 = .ok (.land, 1) := by decide +kernel
theorem dX9_number_203 : decode cX9_number 203 = .ok (.lconst 1, 1) := by decide +kernel
theorem dX9_number_204 : decode cX9_number 204 = .ok (.lcmp, 1) := by decide +kernel
theorem dX9_number_205 : decode cX9_number 205 = .ok (.ifCond .ne 9, 3) := by decide +kernel
theorem dX9_number_208 : decode cX9_number 208 = .ok (.lload 9, 2) := by decide +kernel
theorem dX9_number_210 : decode cX9_number 210 = .ok (.lneg, 1) := by decide +kernel
theorem dX9_number_211 : decode cX9_number 211 = .ok (.goto 5, 3) := by decide +kernel
theorem dX9_number_214 : decode cX9_number 214 = .ok (.lload 9, 2) := by decide +kernel
theorem dX9_number_216 : decode cX9_number 216 = .ok (.lastore, 1) := by decide +kernel
theorem dX9_number_217 : decode cX9_number 217 = .ok (.aload_n 0, 1) := by decide +kernel
theorem dX9_number_218 : decode cX9_number 218 = .ok (.dup, 1) := by decide +kernel
theorem dX9_number_219 : decode cX9_number 219 = .ok (.getfield 49, 3) := by decide +kernel
theorem dX9_number_222 : decode cX9_number 222 = .ok (.iconst 1, 1) := by decide +kernel
theorem dX9_number_223 : decode cX9_number 223 = .ok (.iadd, 1) := by decide +kernel
theorem dX9_number_224 : decode cX9_number 224 = .ok (.putfield 49, 3) := by decide +kernel
theorem dX9_number_227 : decode cX9_number 227 = .ok (.iload 7, 2) := by decide +kernel
theorem dX9_number_229 : decode cX9_number 229 = .ok (.ireturn, 1) := by decide +kernel
theorem dX9_within_0 : decode cX9_within 0 = .ok (.lload_n 0, 1) := by decide +kernel
theorem dX9_within_1 : decode cX9_within 1 = .ok (.lconst 0, 1) := by decide +kernel
theorem dX9_within_2 : decode cX9_within 2 = .ok (.lcmp, 1) := by decide +kernel
theorem dX9_within_3 : decode cX9_within 3 = .ok (.ifCond .lt 13, 3) := by decide +kernel
theorem dX9_within_6 : decode cX9_within 6 = .ok (.lload_n 0, 1) := by decide +kernel
theorem dX9_within_7 : decode cX9_within 7 = .ok (.lload_n 2, 1) := by decide +kernel
theorem dX9_within_8 : decode cX9_within 8 = .ok (.lcmp, 1) := by decide +kernel
theorem dX9_within_9 : decode cX9_within 9 = .ok (.ifCond .gt 7, 3) := by decide +kernel
theorem dX9_within_12 : decode cX9_within 12 = .ok (.iconst 1, 1) := by decide +kernel
theorem dX9_within_13 : decode cX9_within 13 = .ok (.goto 4, 3) := by decide +kernel
theorem dX9_within_16 : decode cX9_within 16 = .ok (.iconst 0, 1) := by decide +kernel
theorem dX9_within_17 : decode cX9_within 17 = .ok (.ireturn, 1) := by decide +kernel
theorem dX9_segment_0 : decode cX9_segment 0 = .ok (.aload_n 0, 1) := by decide +kernel
theorem dX9_segment_1 : decode cX9_segment 1 = .ok (.getfield 49, 3) := by decide +kernel
theorem dX9_segment_4 : decode cX9_segment 4 = .ok (.iconst 1, 1) := by decide +kernel
theorem dX9_segment_5 : decode cX9_segment 5 = .ok (.if_icmp .eq 26, 3) := by decide +kernel
theorem dX9_segment_8 : decode cX9_segment 8 = .ok (.aload_n 0, 1) := by decide +kernel
theorem dX9_segment_9 : decode cX9_segment 9 = .ok (.getfield 49, 3) := by decide +kernel
theorem dX9_segment_12 : decode cX9_segment 12 = .ok (.iconst 4, 1) := by decide +kernel
theorem dX9_segment_13 : decode cX9_segment 13 = .ok (.if_icmp .eq 18, 3) := by decide +kernel
theorem dX9_segment_16 : decode cX9_segment 16 = .ok (.aload_n 0, 1) := by decide +kernel
theorem dX9_segment_17 : decode cX9_segment 17 = .ok (.getfield 49, 3) := by decide +kernel
theorem dX9_segment_20 : decode cX9_segment 20 = .ok (.iconst 5, 1) := by decide +kernel
theorem dX9_segment_21 : decode cX9_segment 21 = .ok (.if_icmp .eq 10, 3) := by decide +kernel
theorem dX9_segment_24 : decode cX9_segment 24 = .ok (.aload_n 0, 1) := by decide +kernel
theorem dX9_segment_25 : decode cX9_segment 25 = .ok (.iconst 3, 1) := by decide +kernel
theorem dX9_segment_26 : decode cX9_segment 26 = .ok (.iload_n 1, 1) := by decide +kernel
theorem dX9_segment_27 : decode cX9_segment 27 = .ok (.invokevirtual 65, 3) := by decide +kernel
theorem dX9_segment_30 : decode cX9_segment 30 = .ok (.ireturn, 1) := by decide +kernel
theorem dX9_segment_31 : decode cX9_segment 31 = .ok (.aload_n 0, 1) := by decide +kernel
theorem dX9_segment_32 : decode cX9_segment 32 = .ok (.getfield 45, 3) := by decide +kernel
theorem dX9_segment_35 : decode cX9_segment 35 = .ok (.iconst 0, 1) := by decide +kernel
theorem dX9_segment_36 : decode cX9_segment 36 = .ok (.laload, 1) := by decide +kernel
theorem dX9_segment_37 : decode cX9_segment 37 = .ok (.lconst 0, 1) := by decide +kernel
theorem dX9_segment_38 : decode cX9_segment 38 = .ok (.lcmp, 1) := by decide +kernel
theorem dX9_segment_39 : decode cX9_segment 39 = .ok (.ifCond .lt 7, 3) := by decide +kernel
theorem dX9_segment_42 : decode cX9_segment 42 = .ok (.iconst 1, 1) := by decide +kernel
theorem dX9_segment_43 : decode cX9_segment 43 = .ok (.goto 4, 3) := by decide +kernel
theorem dX9_segment_46 : decode cX9_segment 46 = .ok (.iconst 0, 1) := by decide +kernel
theorem dX9_segment_47 : decode cX9_segment 47 = .ok (.istore_n 2, 1) := by decide +kernel
theorem dX9_segment_48 : decode cX9_segment 48 = .ok (.aload_n 0, 1) := by decide +kernel
theorem dX9_segment_49 : decode cX9_segment 49 = .ok (.getfield 52, 3) := by decide +kernel
theorem dX9_segment_52 : decode cX9_segment 52 = .ok (.iconst 1, 1) := by decide +kernel
theorem dX9_segment_53 : decode cX9_segment 53 = .ok (.dup2, 1) := by decide +kernel
theorem dX9_segment_54 : decode cX9_segment 54 = .ok (.laload, 1) := by decide +kernel
theorem dX9_segment_55 : decode cX9_segment 55 = .ok (.aload_n 0, 1) := by decide +kernel
theorem dX9_segment_56 : decode cX9_segment 56 = .ok (.getfield 45, 3) := by decide +kernel
theorem dX9_segment_59 : decode cX9_segment 59 = .ok (.iconst 0, 1) := by decide +kernel
theorem dX9_segment_60 : decode cX9_segment 60 = .ok (.laload, 1) := by decide +kernel
theorem dX9_segment_61 : decode cX9_segment 61 = .ok (.ladd, 1) := by decide +kernel
theorem dX9_segment_62 : decode cX9_segment 62 = .ok (.lastore, 1) := by decide +kernel
theorem dX9_segment_63 : decode cX9_segment 63 = .ok (.iload_n 2, 1) := by decide +kernel
theorem dX9_segment_64 : decode cX9_segment 64 = .ok (.ifCond .eq 22, 3) := by decide +kernel
theorem dX9_segment_67 : decode cX9_segment 67 = .ok (.aload_n 0, 1) := by decide +kernel
theorem dX9_segment_68 : decode cX9_segment 68 = .ok (.getfield 52, 3) := by decide +kernel
theorem dX9_segment_71 : decode cX9_segment 71 = .ok (.iconst 1, 1) := by decide +kernel
theorem dX9_segment_72 : decode cX9_segment 72 = .ok (.laload, 1) := by decide +kernel
theorem dX9_segment_73 : decode cX9_segment 73 = .ok (.ldc2_w 75, 3) := by decide +kernel
theorem dX9_segment_76 : decode cX9_segment 76 = .ok (.invokestatic 77, 3) := by decide +kernel
theorem dX9_segment_79 : decode cX9_segment 79 = .ok (.ifCond .eq 7, 3) := by decide +kernel
theorem dX9_segment_82 : decode cX9_segment 82 = .ok (.iconst 1, 1) := by decide +kernel
theorem dX9_segment_83 : decode cX9_segment 83 = .ok (.goto 4, 3) := by decide +kernel
theorem dX9_segment_86 : decode cX9_segment 86 = .ok (.iconst 0, 1) := by decide +kernel
theorem dX9_segment_87 : decode cX9_segment 87 = .ok (.istore_n 2, 1) := by decide +kernel
theorem dX9_segment_88 : decode cX9_segment 88 = .ok (.aload_n 0, 1) := by decide +kernel
theorem dX9_segment_89 : decode cX9_segment 89 = .ok (.getfield 49, 3) := by decide +kernel
theorem dX9_segment_92 : decode cX9_segment 92 = .ok (.iconst 1, 1) := by decide +kernel
theorem dX9_segment_93 : decode cX9_segment 93 = .ok (.if_icmp .le 124, 3) := by decide +kernel
theorem dX9_segment_96 : decode cX9_segment 96 = .ok (.iconst 1, 1) := by decide +kernel
theorem dX9_segment_97 : decode cX9_segment 97 = .ok (.istore_n 3, 1) := by decide +kernel
theorem dX9_segment_98 : decode cX9_segment 98 = .ok (.iload_n 3, 1) := by decide +kernel
theorem dX9_segment_99 : decode cX9_segment 99 = .ok (.aload_n 0, 1) := by decide +kernel
theorem dX9_segment_100 : decode cX9_segment 100 = .ok (.getfield 49, 3) := by decide +kernel
theorem dX9_segment_103 : decode cX9_segment 103 = .ok (.if_icmp .ge 26, 3) := by decide +kernel
theorem dX9_segment_106 : decode cX9_segment 106 = .ok (.aload_n 0, 1) := by decide +kernel
theorem dX9_segment_107 : decode cX9_segment 107 = .ok (.getfield 52, 3) := by decide +kernel
theorem dX9_segment_110 : decode cX9_segment 110 = .ok (.iload_n 3, 1) := by decide +kernel
theorem dX9_segment_111 : decode cX9_segment 111 = .ok (.iconst 1, 1) := by decide +kernel
theorem dX9_segment_112 : decode cX9_segment 112 = .ok (.iadd, 1) := by decide +kernel
theorem dX9_segment_113 : decode cX9_segment 113 = .ok (.dup2, 1) := by decide +kernel
theorem dX9_segment_114 : decode cX9_segment 114 = .ok (.laload, 1) := by decide +kernel
theorem dX9_segment_115 : decode cX9_segment 115 = .ok (.aload_n 0, 1) := by decide +kernel
theorem dX9_segment_116 : decode cX9_segment 116 = .ok (.getfield 45, 3) := by decide +kernel
theorem dX9_segment_119 : decode cX9_segment 119 = .ok (.iload_n 3, 1) := by decide +kernel
theorem dX9_segment_120 : decode cX9_segment 120 = .ok (.laload, 1) := by decide +kernel
theorem dX9_segment_121 : decode cX9_segment 121 = .ok (.ladd, 1) := by decide +kernel
theorem dX9_segment_122 : decode cX9_segment 122 = .ok (.lastore, 1) := by decide +kernel
theorem dX9_segment_123 : decode cX9_segment 123 = .ok (.iinc 3 1, 3) := by decide +kernel
theorem dX9_segment_126 : decode cX9_segment 126 = .ok (.goto (-28), 3) := by decide +kernel
theorem dX9_segment_129 : decode cX9_segment 129 = .ok (.iload_n 2, 1) := by decide +kernel
theorem dX9_segment_130 : decode cX9_segment 130 = .ok (.ifCond .eq 52, 3) := by decide +kernel
theorem dX9_segment_133 : decode cX9_segment 133 = .ok (.aload_n 0, 1) := by decide +kernel
theorem dX9_segment_134 : decode cX9_segment 134 = .ok (.getfield 52, 3) := by decide +kernel
theorem dX9_segment_137 : decode cX9_segment 137 = .ok (.iconst 2, 1) := by decide +kernel
theorem dX9_segment_138 : decode cX9_segment 138 = .ok (.laload, 1) := by decide +kernel
theorem dX9_segment_139 : decode cX9_segment 139 = .ok (.ldc2_w 81, 3) := by decide +kernel
theorem dX9_segment_142 : decode cX9_segment 142 = .ok (.invokestatic 77, 3) := by decide +kernel
theorem dX9_segment_145 : decode cX9_segment 145 = .ok (.ifCond .eq 37, 3) := by decide +kernel
theorem dX9_segment_148 : decode cX9_segment 148 = .ok (.aload_n 0, 1) := by decide +kernel
theorem dX9_segment_149 : decode cX9_segment 149 = .ok (.getfield 52, 3) := by decide +kernel
theorem dX9_segment_152 : decode cX9_segment 152 = .ok (.iconst 3, 1) := by decide +kernel
theorem dX9_segment_153 : decode cX9_segment 153 = .ok (.laload, 1) := by decide +kernel
theorem dX9_segment_154 : decode cX9_segment 154 = .ok (.ldc2_w 75, 3) := by decide +kernel
theorem dX9_segment_157 : decode cX9_segment 157 = .ok (.invokestatic 77, 3) := by decide +kernel
theorem dX9_segment_160 : decode cX9_segment 160 = .ok (.ifCond .eq 22, 3) := by decide +kernel
theorem dX9_segment_163 : decode cX9_segment 163 = .ok (.aload_n 0, 1) := by decide +kernel
theorem dX9_segment_164 : decode cX9_segment 164 = .ok (.getfield 52, 3) := by decide +kernel
theorem dX9_segment_167 : decode cX9_segment 167 = .ok (.iconst 4, 1) := by decide +kernel
theorem dX9_segment_168 : decode cX9_segment 168 = .ok (.laload, 1) := by decide +kernel
theorem dX9_segment_169 : decode cX9_segment 169 = .ok (.ldc2_w 75, 3) := by decide +kernel
theorem dX9_segment_172 : decode cX9_segment 172 = .ok (.invokestatic 77, 3) := by decide +kernel
theorem dX9_segment_175 : decode cX9_segment 175 = .ok (.ifCond .eq 7, 3) := by decide +kernel
theorem dX9_segment_178 : decode cX9_segment 178 = .ok (.iconst 1, 1) := by decide +kernel
theorem dX9_segment_179 : decode cX9_segment 179 = .ok (.goto 4, 3) := by decide +kernel
theorem dX9_segment_182 : decode cX9_segment 182 = .ok (.iconst 0, 1) := by decide +kernel
theorem dX9_segment_183 : decode cX9_segment 183 = .ok (.istore_n 2, 1) := by decide +kernel
theorem dX9_segment_184 : decode cX9_segment 184 = .ok (.aload_n 0, 1) := by decide +kernel
theorem dX9_segment_185 : decode cX9_segment 185 = .ok (.getfield 49, 3) := by decide +kernel
theorem dX9_segment_188 : decode cX9_segment 188 = .ok (.iconst 5, 1) := by decide +kernel
theorem dX9_segment_189 : decode cX9_segment 189 = .ok (.if_icmp .ne 28, 3) := by decide +kernel
theorem dX9_segment_192 : decode cX9_segment 192 = .ok (.iload_n 2, 1) := by decide +kernel
theorem dX9_segment_193 : decode cX9_segment 193 = .ok (.ifCond .eq 22, 3) := by decide +kernel
theorem dX9_segment_196 : decode cX9_segment 196 = .ok (.aload_n 0, 1) := by decide +kernel
theorem dX9_segment_197 : decode cX9_segment 197 = .ok (.getfield 52, 3) := by decide +kernel
theorem dX9_segment_200 : decode cX9_segment 200 = .ok (.iconst 5, 1) := by decide +kernel
theorem dX9_segment_201 : decode cX9_segment 201 = .ok (.laload, 1) := by decide +kernel
theorem dX9_segment_202 : decode cX9_segment 202 = .ok (.ldc2_w 81, 3) := by decide +kernel
theorem dX9_segment_205 : decode cX9_segment 205 = .ok (.invokestatic 77, 3) := by decide +kernel
theorem dX9_segment_208 : decode cX9_segment 208 = .ok (.ifCond .eq 7, 3) := by decide +kernel
theorem dX9_segment_211 : decode cX9_segment 211 = .ok (.iconst 1, 1) := by decide +kernel
theorem dX9_segment_212 : decode cX9_segment 212 = .ok (.goto 4, 3) := by decide +kernel
theorem dX9_segment_215 : decode cX9_segment 215 = .ok (.iconst 0, 1) := by decide +kernel
theorem dX9_segment_216 : decode cX9_segment 216 = .ok (.istore_n 2, 1) := by decide +kernel
theorem dX9_segment_217 : decode cX9_segment 217 = .ok (.iload_n 2, 1) := by decide +kernel
theorem dX9_segment_218 : decode cX9_segment 218 = .ok (.ifCond .ne 10, 3) := by decide +kernel
theorem dX9_segment_221 : decode cX9_segment 221 = .ok (.aload_n 0, 1) := by decide +kernel
theorem dX9_segment_222 : decode cX9_segment 222 = .ok (.iconst 4, 1) := by decide +kernel
theorem dX9_segment_223 : decode cX9_segment 223 = .ok (.iload_n 1, 1) := by decide +kernel
theorem dX9_segment_224 : decode cX9_segment 224 = .ok (.invokevirtual 65, 3) := by decide +kernel
theorem dX9_segment_227 : decode cX9_segment 227 = .ok (.ireturn, 1) := by decide +kernel
theorem dX9_segment_228 : decode cX9_segment 228 = .ok (.aload_n 0, 1) := by decide +kernel
theorem dX9_segment_229 : decode cX9_segment 229 = .ok (.getfield 23, 3) := by decide +kernel
theorem dX9_segment_232 : decode cX9_segment 232 = .ok (.sipush 300, 3) := by decide +kernel
theorem dX9_segment_235 : decode cX9_segment 235 = .ok (.if_icmp .ne 10, 3) := by decide +kernel
theorem dX9_segment_238 : decode cX9_segment 238 = .ok (.aload_n 0, 1) := by decide +kernel
theorem dX9_segment_239 : decode cX9_segment 239 = .ok (.iconst 5, 1) := by decide +kernel
theorem dX9_segment_240 : decode cX9_segment 240 = .ok (.iload_n 1, 1) := by decide +kernel
theorem dX9_segment_241 : decode cX9_segment 241 = .ok (.invokevirtual 65, 3) := by decide +kernel
theorem dX9_segment_244 : decode cX9_segment 244 = .ok (.ireturn, 1) := by decide +kernel
theorem dX9_segment_245 : decode cX9_segment 245 = .ok (.bipush 6, 2) := by decide +kernel
theorem dX9_segment_247 : decode cX9_segment 247 = .ok (.aload_n 0, 1) := by decide +kernel
theorem dX9_segment_248 : decode cX9_segment 248 = .ok (.getfield 23, 3) := by decide +kernel
theorem dX9_segment_251 : decode cX9_segment 251 = .ok (.imul, 1) := by decide +kernel
theorem dX9_segment_252 : decode cX9_segment 252 = .ok (.istore_n 3, 1) := by decide +kernel
theorem dX9_segment_253 : decode cX9_segment 253 = .ok (.aload_n 0, 1) := by decide +kernel
theorem dX9_segment_254 : decode cX9_segment 254 = .ok (.getfield 20, 3) := by decide +kernel
theorem dX9_segment_257 : decode cX9_segment 257 = .ok (.iload_n 3, 1) := by decide +kernel
theorem dX9_segment_258 : decode cX9_segment 258 = .ok (.aload_n 0, 1) := by decide +kernel
theorem dX9_segment_259 : decode cX9_segment 259 = .ok (.getfield 52, 3) := by decide +kernel
theorem dX9_segment_262 : decode cX9_segment 262 = .ok (.iconst 0, 1) := by decide +kernel
theorem dX9_segment_263 : decode cX9_segment 263 = .ok (.laload, 1) := by decide +kernel
theorem dX9_segment_264 : decode cX9_segment 264 = .ok (.l2i, 1) := by decide +kernel
theorem dX9_segment_265 : decode cX9_segment 265 = .ok (.iastore, 1) := by decide +kernel
theorem dX9_segment_266 : decode cX9_segment 266 = .ok (.aload_n 0, 1) := by decide +kernel
theorem dX9_segment_267 : decode cX9_segment 267 = .ok (.getfield 20, 3) := by decide +kernel
theorem dX9_segment_270 : decode cX9_segment 270 = .ok (.iload_n 3, 1) := by decide +kernel
theorem dX9_segment_271 : decode cX9_segment 271 = .ok (.iconst 1, 1) := by decide +kernel
theorem dX9_segment_272 : decode cX9_segment 272 = .ok (.iadd, 1) := by decide +kernel
theorem dX9_segment_273 : decode cX9_segment 273 = .ok (.aload_n 0, 1) := by decide +kernel
theorem dX9_segment_274 : decode cX9_segment 274 = .ok (.getfield 52, 3) := by decide +kernel
theorem dX9_segment_277 : decode cX9_segment 277 = .ok (.iconst 1, 1) := by decide +kernel
theorem dX9_segment_278 : decode cX9_segment 278 = .ok (.laload, 1) := by decide +kernel
theorem dX9_segment_279 : decode cX9_segment 279 = .ok (.l2i, 1) := by decide +kernel
theorem dX9_segment_280 : decode cX9_segment 280 = .ok (.iastore, 1) := by decide +kernel
theorem dX9_segment_281 : decode cX9_segment 281 = .ok (.aload_n 0, 1) := by decide +kernel
theorem dX9_segment_282 : decode cX9_segment 282 = .ok (.getfield 20, 3) := by decide +kernel
theorem dX9_segment_285 : decode cX9_segment 285 = .ok (.iload_n 3, 1) := by decide +kernel
theorem dX9_segment_286 : decode cX9_segment 286 = .ok (.iconst 2, 1) := by decide +kernel
theorem dX9_segment_287 : decode cX9_segment 287 = .ok (.iadd, 1) := by decide +kernel
theorem dX9_segment_288 : decode cX9_segment 288 = .ok (.aload_n 0, 1) := by decide +kernel
theorem dX9_segment_289 : decode cX9_segment 289 = .ok (.getfield 49, 3) := by decide +kernel
theorem dX9_segment_292 : decode cX9_segment 292 = .ok (.iconst 1, 1) := by decide +kernel
theorem dX9_segment_293 : decode cX9_segment 293 = .ok (.if_icmp .ne 7, 3) := by decide +kernel
theorem dX9_segment_296 : decode cX9_segment 296 = .ok (.iconst (-1), 1) := by decide +kernel
theorem dX9_segment_297 : decode cX9_segment 297 = .ok (.goto 10, 3) := by decide +kernel
theorem dX9_segment_300 : decode cX9_segment 300 = .ok (.aload_n 0, 1) := by decide +kernel
theorem dX9_segment_301 : decode cX9_segment 301 = .ok (.getfield 52, 3) := by decide +kernel
theorem dX9_segment_304 : decode cX9_segment 304 = .ok (.iconst 2, 1) := by decide +kernel
theorem dX9_segment_305 : decode cX9_segment 305 = .ok (.laload, 1) := by decide +kernel
theorem dX9_segment_306 : decode cX9_segment 306 = .ok (.l2i, 1) := by decide +kernel
theorem dX9_segment_307 : decode cX9_segment 307 = .ok (.iastore, 1) := by decide +kernel
theorem dX9_segment_308 : decode cX9_segment 308 = .ok (.aload_n 0, 1) := by decide +kernel
theorem dX9_segment_309 : decode cX9_segment 309 = .ok (.getfield 20, 3) := by decide +kernel
theorem dX9_segment_312 : decode cX9_segment 312 = .ok (.iload_n 3, 1) := by decide +kernel
theorem dX9_segment_313 : decode cX9_segment 313 = .ok (.iconst 3, 1) := by decide +kernel
theorem dX9_segment_314 : decode cX9_segment 314 = .ok (.iadd, 1) := by decide +kernel
theorem dX9_segment_315 : decode cX9_segment 315 = .ok (.aload_n 0, 1) := by decide +kernel
theorem dX9_segment_316 : decode cX9_segment 316 = .ok (.getfield 49, 3) := by decide +kernel
theorem dX9_segment_319 : decode cX9_segment 319 = .ok (.iconst 1, 1) := by decide +kernel
theorem dX9_segment_320 : decode cX9_segment 320 = .ok (.if_icmp .ne 7, 3) := by decide +kernel
theorem dX9_segment_323 : decode cX9_segment 323 = .ok (.iconst 0, 1) := by decide +kernel
theorem dX9_segment_324 : decode cX9_segment 324 = .ok (.goto 10, 3) := by decide +kernel
theorem dX9_segment_327 : decode cX9_segment 327 = .ok (.aload_n 0, 1) := by decide +kernel
theorem dX9_segment_328 : decode cX9_segment 328 = .ok (.getfield 52, 3) := by decide +kernel
theorem dX9_segment_331 : decode cX9_segment 331 = .ok (.iconst 3, 1) := by decide +kernel
theorem dX9_segment_332 : decode cX9_segment 332 = .ok (.laload, 1) := by decide +kernel
theorem dX9_segment_333 : decode cX9_segment 333 = .ok (.l2i, 1) := by decide +kernel
theorem dX9_segment_334 : decode cX9_segment 334 = .ok (.iastore, 1) := by decide +kernel
theorem dX9_segment_335 : decode cX9_segment 335 = .ok (.aload_n 0, 1) := by decide +kernel
theorem dX9_segment_336 : decode cX9_segment 336 = .ok (.getfield 20, 3) := by decide +kernel
theorem dX9_segment_339 : decode cX9_segment 339 = .ok (.iload_n 3, 1) := by decide +kernel
theorem dX9_segment_340 : decode cX9_segment 340 = .ok (.iconst 4, 1) := by decide +kernel
theorem dX9_segment_341 : decode cX9_segment 341 = .ok (.iadd, 1) := by decide +kernel
theorem dX9_segment_342 : decode cX9_segment 342 = .ok (.aload_n 0, 1) := by decide +kernel
theorem dX9_segment_343 : decode cX9_segment 343 = .ok (.getfield 49, 3) := by decide +kernel
theorem dX9_segment_346 : decode cX9_segment 346 = .ok (.iconst 1, 1) := by decide +kernel
theorem dX9_segment_347 : decode cX9_segment 347 = .ok (.if_icmp .ne 7, 3) := by decide +kernel
theorem dX9_segment_350 : decode cX9_segment 350 = .ok (.iconst 0, 1) := by decide +kernel
theorem dX9_segment_351 : decode cX9_segment 351 = .ok (.goto 10, 3) := by decide +kernel
theorem dX9_segment_354 : decode cX9_segment 354 = .ok (.aload_n 0, 1) := by decide +kernel
theorem dX9_segment_355 : decode cX9_segment 355 = .ok (.getfield 52, 3) := by decide +kernel
theorem dX9_segment_358 : decode cX9_segment 358 = .ok (.iconst 4, 1) := by decide +kernel
theorem dX9_segment_359 : decode cX9_segment 359 = .ok (.laload, 1) := by decide +kernel
theorem dX9_segment_360 : decode cX9_segment 360 = .ok (.l2i, 1) := by decide +kernel
theorem dX9_segment_361 : decode cX9_segment 361 = .ok (.iastore, 1) := by decide +kernel
theorem dX9_segment_362 : decode cX9_segment 362 = .ok (.aload_n 0, 1) := by decide +kernel
theorem dX9_segment_363 : decode cX9_segment 363 = .ok (.getfield 20, 3) := by decide +kernel
theorem dX9_segment_366 : decode cX9_segment 366 = .ok (.iload_n 3, 1) := by decide +kernel
theorem dX9_segment_367 : decode cX9_segment 367 = .ok (.iconst 5, 1) := by decide +kernel
theorem dX9_segment_368 : decode cX9_segment 368 = .ok (.iadd, 1) := by decide +kernel
theorem dX9_segment_369 : decode cX9_segment 369 = .ok (.aload_n 0, 1) := by decide +kernel
theorem dX9_segment_370 : decode cX9_segment 370 = .ok (.getfield 49, 3) := by decide +kernel
theorem dX9_segment_373 : decode cX9_segment 373 = .ok (.iconst 5, 1) := by decide +kernel
theorem dX9_segment_374 : decode cX9_segment 374 = .ok (.if_icmp .ne 13, 3) := by decide +kernel
theorem dX9_segment_377 : decode cX9_segment 377 = .ok (.aload_n 0, 1) := by decide +kernel
theorem dX9_segment_378 : decode cX9_segment 378 = .ok (.getfield 52, 3) := by decide +kernel
theorem dX9_segment_381 : decode cX9_segment 381 = .ok (.iconst 5, 1) := by decide +kernel
theorem dX9_segment_382 : decode cX9_segment 382 = .ok (.laload, 1) := by decide +kernel
theorem dX9_segment_383 : decode cX9_segment 383 = .ok (.l2i, 1) := by decide +kernel
theorem dX9_segment_384 : decode cX9_segment 384 = .ok (.goto 4, 3) := by decide +kernel
theorem dX9_segment_387 : decode cX9_segment 387 = .ok (.iconst (-1), 1) := by decide +kernel
theorem dX9_segment_388 : decode cX9_segment 388 = .ok (.iastore, 1) := by decide +kernel
theorem dX9_segment_389 : decode cX9_segment 389 = .ok (.aload_n 0, 1) := by decide +kernel
theorem dX9_segment_390 : decode cX9_segment 390 = .ok (.dup, 1) := by decide +kernel
theorem dX9_segment_391 : decode cX9_segment 391 = .ok (.getfield 23, 3) := by decide +kernel
theorem dX9_segment_394 : decode cX9_segment 394 = .ok (.iconst 1, 1) := by decide +kernel
theorem dX9_segment_395 : decode cX9_segment 395 = .ok (.iadd, 1) := by decide +kernel
theorem dX9_segment_396 : decode cX9_segment 396 = .ok (.putfield 23, 3) := by decide +kernel
theorem dX9_segment_399 : decode cX9_segment 399 = .ok (.iconst 1, 1) := by decide +kernel
theorem dX9_segment_400 : decode cX9_segment 400 = .ok (.ireturn, 1) := by decide +kernel
theorem dX9_readAll_0 : decode cX9_readAll 0 = .ok (.aload_n 0, 1) := by decide +kernel
theorem dX9_readAll_1 : decode cX9_readAll 1 = .ok (.iconst 0, 1) := by decide +kernel
theorem dX9_readAll_2 : decode cX9_readAll 2 = .ok (.putfield 23, 3) := by decide +kernel
theorem dX9_readAll_5 : decode cX9_readAll 5 = .ok (.iconst 0, 1) := by decide +kernel
theorem dX9_readAll_6 : decode cX9_readAll 6 = .ok (.istore_n 2, 1) := by decide +kernel
theorem dX9_readAll_7 : decode cX9_readAll 7 = .ok (.iload_n 2, 1) := by decide +kernel
theorem dX9_readAll_8 : decode cX9_readAll 8 = .ok (.bipush 6, 2) := by decide +kernel
theorem dX9_readAll_10 : decode cX9_readAll 10 = .ok (.if_icmp .ge 16, 3) := by decide +kernel
theorem dX9_readAll_13 : decode cX9_readAll 13 = .ok (.aload_n 0, 1) := by decide +kernel
theorem dX9_readAll_14 : decode cX9_readAll 14 = .ok (.getfield 52, 3) := by decide +kernel
theorem dX9_readAll_17 : decode cX9_readAll 17 = .ok (.iload_n 2, 1) := by decide +kernel
theorem dX9_readAll_18 : decode cX9_readAll 18 = .ok (.lconst 0, 1) := by decide +kernel
theorem dX9_readAll_19 : decode cX9_readAll 19 = .ok (.lastore, 1) := by decide +kernel
theorem dX9_readAll_20 : decode cX9_readAll 20 = .ok (.iinc 2 1, 3) := by decide +kernel
theorem dX9_readAll_23 : decode cX9_readAll 23 = .ok (.goto (-16), 3) := by decide +kernel
theorem dX9_readAll_26 : decode cX9_readAll 26 = .ok (.iconst 0, 1) := by decide +kernel
theorem dX9_readAll_27 : decode cX9_readAll 27 = .ok (.istore_n 2, 1) := by decide +kernel
theorem dX9_readAll_28 : decode cX9_readAll 28 = .ok (.iload_n 2, 1) := by decide +kernel
theorem dX9_readAll_29 : decode cX9_readAll 29 = .ok (.iload_n 1, 1) := by decide +kernel
theorem dX9_readAll_30 : decode cX9_readAll 30 = .ok (.if_icmp .ge 191, 3) := by decide +kernel
theorem dX9_readAll_33 : decode cX9_readAll 33 = .ok (.aload_n 0, 1) := by decide +kernel
theorem dX9_readAll_34 : decode cX9_readAll 34 = .ok (.getfield 26, 3) := by decide +kernel
theorem dX9_readAll_37 : decode cX9_readAll 37 = .ok (.iload_n 2, 1) := by decide +kernel
theorem dX9_readAll_38 : decode cX9_readAll 38 = .ok (.baload, 1) := by decide +kernel
theorem dX9_readAll_39 : decode cX9_readAll 39 = .ok (.bipush 59, 2) := by decide +kernel
theorem dX9_readAll_41 : decode cX9_readAll 41 = .ok (.if_icmp .ne 46, 3) := by decide +kernel
theorem dX9_readAll_44 : decode cX9_readAll 44 = .ok (.aload_n 0, 1) := by decide +kernel
theorem dX9_readAll_45 : decode cX9_readAll 45 = .ok (.getfield 52, 3) := by decide +kernel
theorem dX9_readAll_48 : decode cX9_readAll 48 = .ok (.iconst 0, 1) := by decide +kernel
theorem dX9_readAll_49 : decode cX9_readAll 49 = .ok (.laload, 1) := by decide +kernel
theorem dX9_readAll_50 : decode cX9_readAll 50 = .ok (.ldc2_w 83, 3) := by decide +kernel
theorem dX9_readAll_53 : decode cX9_readAll 53 = .ok (.lcmp, 1) := by decide +kernel
theorem dX9_readAll_54 : decode cX9_readAll 54 = .ok (.ifCond .ne 10, 3) := by decide +kernel
theorem dX9_readAll_57 : decode cX9_readAll 57 = .ok (.aload_n 0, 1) := by decide +kernel
theorem dX9_readAll_58 : decode cX9_readAll 58 = .ok (.iconst 5, 1) := by decide +kernel
theorem dX9_readAll_59 : decode cX9_readAll 59 = .ok (.iload_n 2, 1) := by decide +kernel
theorem dX9_readAll_60 : decode cX9_readAll 60 = .ok (.invokevirtual 65, 3) := by decide +kernel
theorem dX9_readAll_63 : decode cX9_readAll 63 = .ok (.ireturn, 1) := by decide +kernel
theorem dX9_readAll_64 : decode cX9_readAll 64 = .ok (.aload_n 0, 1) := by decide +kernel
theorem dX9_readAll_65 : decode cX9_readAll 65 = .ok (.getfield 52, 3) := by decide +kernel
theorem dX9_readAll_68 : decode cX9_readAll 68 = .ok (.iconst 0, 1) := by decide +kernel
theorem dX9_readAll_69 : decode cX9_readAll 69 = .ok (.dup2, 1) := by decide +kernel
theorem dX9_readAll_70 : decode cX9_readAll 70 = .ok (.laload, 1) := by decide +kernel
theorem dX9_readAll_71 : decode cX9_readAll 71 = .ok (.lconst 1, 1) := by decide +kernel
theorem dX9_readAll_72 : decode cX9_readAll 72 = .ok (.ladd, 1) := by decide +kernel
theorem dX9_readAll_73 : decode cX9_readAll 73 = .ok (.lastore, 1) := by decide +kernel
theorem dX9_readAll_74 : decode cX9_readAll 74 = .ok (.aload_n 0, 1) := by decide +kernel
theorem dX9_readAll_75 : decode cX9_readAll 75 = .ok (.getfield 52, 3) := by decide +kernel
theorem dX9_readAll_78 : decode cX9_readAll 78 = .ok (.iconst 1, 1) := by decide +kernel
theorem dX9_readAll_79 : decode cX9_readAll 79 = .ok (.lconst 0, 1) := by decide +kernel
theorem dX9_readAll_80 : decode cX9_readAll 80 = .ok (.lastore, 1) := by decide +kernel
theorem dX9_readAll_81 : decode cX9_readAll 81 = .ok (.iinc 2 1, 3) := by decide +kernel
theorem dX9_readAll_84 : decode cX9_readAll 84 = .ok (.goto (-56), 3) := by decide +kernel
theorem dX9_readAll_87 : decode cX9_readAll 87 = .ok (.iconst 1, 1) := by decide +kernel
theorem dX9_readAll_88 : decode cX9_readAll 88 = .ok (.istore_n 3, 1) := by decide +kernel
theorem dX9_readAll_89 : decode cX9_readAll 89 = .ok (.iload_n 3, 1) := by decide +kernel
theorem dX9_readAll_90 : decode cX9_readAll 90 = .ok (.ifCond .eq 128, 3) := by decide +kernel
theorem dX9_readAll_93 : decode cX9_readAll 93 = .ok (.iload_n 2, 1) := by decide +kernel
theorem dX9_readAll_94 : decode cX9_readAll 94 = .ok (.iload_n 1, 1) := by decide +kernel
theorem dX9_readAll_95 : decode cX9_readAll 95 = .ok (.if_icmp .eq 25, 3) := by decide +kernel
theorem dX9_readAll_98 : decode cX9_readAll 98 = .ok (.aload_n 0, 1) := by decide +kernel
theorem dX9_readAll_99 : decode cX9_readAll 99 = .ok (.getfield 26, 3) := by decide +kernel
theorem dX9_readAll_102 : decode cX9_readAll 102 = .ok (.iload_n 2, 1) := by decide +kernel
theorem dX9_readAll_103 : decode cX9_readAll 103 = .ok (.baload, 1) := by decide +kernel
theorem dX9_readAll_104 : decode cX9_readAll 104 = .ok (.bipush 44, 2) := by decide +kernel
theorem dX9_readAll_106 : decode cX9_readAll 106 = .ok (.if_icmp .eq 14, 3) := by decide +kernel
theorem dX9_readAll_109 : decode cX9_readAll 109 = .ok (.aload_n 0, 1) := by decide +kernel
theorem dX9_readAll_110 : decode cX9_readAll 110 = .ok (.getfield 26, 3) := by decide +kernel
theorem dX9_readAll_113 : decode cX9_readAll 113 = .ok (.iload_n 2, 1) := by decide +kernel
theorem dX9_readAll_114 : decode cX9_readAll 114 = .ok (.baload, 1) := by decide +kernel
theorem dX9_readAll_115 : decode cX9_readAll 115 = .ok (.bipush 59, 2) := by decide +kernel
theorem dX9_readAll_117 : decode cX9_readAll 117 = .ok (.if_icmp .ne 10, 3) := by decide +kernel
theorem dX9_readAll_120 : decode cX9_readAll 120 = .ok (.aload_n 0, 1) := by decide +kernel
theorem dX9_readAll_121 : decode cX9_readAll 121 = .ok (.iconst 3, 1) := by decide +kernel
theorem dX9_readAll_122 : decode cX9_readAll 122 = .ok (.iload_n 2, 1) := by decide +kernel
theorem dX9_readAll_123 : decode cX9_readAll 123 = .ok (.invokevirtual 65, 3) := by decide +kernel
theorem dX9_readAll_126 : decode cX9_readAll 126 = .ok (.ireturn, 1) := by decide +kernel
theorem dX9_readAll_127 : decode cX9_readAll 127 = .ok (.iload_n 2, 1) := by decide +kernel
theorem dX9_readAll_128 : decode cX9_readAll 128 = .ok (.istore 4, 2) := by decide +kernel
theorem dX9_readAll_130 : decode cX9_readAll 130 = .ok (.aload_n 0, 1) := by decide +kernel
theorem dX9_readAll_131 : decode cX9_readAll 131 = .ok (.iconst 0, 1) := by decide +kernel
theorem dX9_readAll_132 : decode cX9_readAll 132 = .ok (.putfield 49, 3) := by decide +kernel
theorem dX9_readAll_135 : decode cX9_readAll 135 = .ok (.iload_n 2, 1) := by decide +kernel
theorem dX9_readAll_136 : decode cX9_readAll 136 = .ok (.iload_n 1, 1) := by decide +kernel
theorem dX9_readAll_137 : decode cX9_readAll 137 = .ok (.if_icmp .ge 38, 3) := by decide +kernel
theorem dX9_readAll_140 : decode cX9_readAll 140 = .ok (.aload_n 0, 1) := by decide +kernel
theorem dX9_readAll_141 : decode cX9_readAll 141 = .ok (.getfield 26, 3) := by decide +kernel
theorem dX9_readAll_144 : decode cX9_readAll 144 = .ok (.iload_n 2, 1) := by decide +kernel
theorem dX9_readAll_145 : decode cX9_readAll 145 = .ok (.baload, 1) := by decide +kernel
theorem dX9_readAll_146 : decode cX9_readAll 146 = .ok (.bipush 44, 2) := by decide +kernel
theorem dX9_readAll_148 : decode cX9_readAll 148 = .ok (.if_icmp .eq 27, 3) := by decide +kernel
theorem dX9_readAll_151 : decode cX9_readAll 151 = .ok (.aload_n 0, 1) := by decide +kernel
theorem dX9_readAll_152 : decode cX9_readAll 152 = .ok (.getfield 26, 3) := by decide +kernel
theorem dX9_readAll_155 : decode cX9_readAll 155 = .ok (.iload_n 2, 1) := by decide +kernel
theorem dX9_readAll_156 : decode cX9_readAll 156 = .ok (.baload, 1) := by decide +kernel
theorem dX9_readAll_157 : decode cX9_readAll 157 = .ok (.bipush 59, 2) := by decide +kernel
theorem dX9_readAll_159 : decode cX9_readAll 159 = .ok (.if_icmp .eq 16, 3) := by decide +kernel
theorem dX9_readAll_162 : decode cX9_readAll 162 = .ok (.aload_n 0, 1) := by decide +kernel
theorem dX9_readAll_163 : decode cX9_readAll 163 = .ok (.iload_n 2, 1) := by decide +kernel
theorem dX9_readAll_164 : decode cX9_readAll 164 = .ok (.iload_n 1, 1) := by decide +kernel
theorem dX9_readAll_165 : decode cX9_readAll 165 = .ok (.invokevirtual 85, 3) := by decide +kernel
theorem dX9_readAll_168 : decode cX9_readAll 168 = .ok (.istore_n 2, 1) := by decide +kernel
theorem dX9_readAll_169 : decode cX9_readAll 169 = .ok (.iload_n 2, 1) := by decide +kernel
theorem dX9_readAll_170 : decode cX9_readAll 170 = .ok (.ifCond .ge (-35), 3) := by decide +kernel
theorem dX9_readAll_173 : decode cX9_readAll 173 = .ok (.iconst 0, 1) := by decide +kernel
theorem dX9_readAll_174 : decode cX9_readAll 174 = .ok (.ireturn, 1) := by decide +kernel
theorem dX9_readAll_175 : decode cX9_readAll 175 = .ok (.aload_n 0, 1) := by decide +kernel
theorem dX9_readAll_176 : decode cX9_readAll 176 = .ok (.iload 4, 2) := by decide +kernel
theorem dX9_readAll_178 : decode cX9_readAll 178 = .ok (.invokevirtual 89, 3) := by decide +kernel
theorem dX9_readAll_181 : decode cX9_readAll 181 = .ok (.ifCond .ne 5, 3) := by decide +kernel
theorem dX9_readAll_184 : decode cX9_readAll 184 = .ok (.iconst 0, 1) := by decide +kernel
theorem dX9_readAll_185 : decode cX9_readAll 185 = .ok (.ireturn, 1) := by decide +kernel
theorem dX9_readAll_186 : decode cX9_readAll 186 = .ok (.iload_n 2, 1) := by decide +kernel
theorem dX9_readAll_187 : decode cX9_readAll 187 = .ok (.iload_n 1, 1) := by decide +kernel
theorem dX9_readAll_188 : decode cX9_readAll 188 = .ok (.if_icmp .ge 18, 3) := by decide +kernel
theorem dX9_readAll_191 : decode cX9_readAll 191 = .ok (.aload_n 0, 1) := by decide +kernel
theorem dX9_readAll_192 : decode cX9_readAll 192 = .ok (.getfield 26, 3) := by decide +kernel
theorem dX9_readAll_195 : decode cX9_readAll 195 = .ok (.iload_n 2, 1) := by decide +kernel
theorem dX9_readAll_196 : decode cX9_readAll 196 = .ok (.baload, 1) := by decide +kernel
theorem dX9_readAll_197 : decode cX9_readAll 197 = .ok (.bipush 44, 2) := by decide +kernel
theorem dX9_readAll_199 : decode cX9_readAll 199 = .ok (.if_icmp .ne 7, 3) := by decide +kernel
theorem dX9_readAll_202 : decode cX9_readAll 202 = .ok (.iconst 1, 1) := by decide +kernel
theorem dX9_readAll_203 : decode cX9_readAll 203 = .ok (.goto 4, 3) := by decide +kernel
theorem dX9_readAll_206 : decode cX9_readAll 206 = .ok (.iconst 0, 1) := by decide +kernel
theorem dX9_readAll_207 : decode cX9_readAll 207 = .ok (.istore_n 3, 1) := by decide +kernel
theorem dX9_readAll_208 : decode cX9_readAll 208 = .ok (.iload_n 3, 1) := by decide +kernel
theorem dX9_readAll_209 : decode cX9_readAll 209 = .ok (.ifCond .eq 6, 3) := by decide +kernel
theorem dX9_readAll_212 : decode cX9_readAll 212 = .ok (.iinc 2 1, 3) := by decide +kernel
theorem dX9_readAll_215 : decode cX9_readAll 215 = .ok (.goto (-126), 3) := by decide +kernel
theorem dX9_readAll_218 : decode cX9_readAll 218 = .ok (.goto (-190), 3) := by decide +kernel
theorem dX9_readAll_221 : decode cX9_readAll 221 = .ok (.iconst 1, 1) := by decide +kernel
theorem dX9_readAll_222 : decode cX9_readAll 222 = .ok (.ireturn, 1) := by decide +kernel
theorem dX9_read_0 : decode cX9_read 0 = .ok (.aload_n 0, 1) := by decide +kernel
theorem dX9_read_1 : decode cX9_read 1 = .ok (.iconst 0, 1) := by decide +kernel
theorem dX9_read_2 : decode cX9_read 2 = .ok (.putfield 7, 3) := by decide +kernel
theorem dX9_read_5 : decode cX9_read 5 = .ok (.aload_n 0, 1) := by decide +kernel
theorem dX9_read_6 : decode cX9_read 6 = .ok (.getfield 30, 3) := by decide +kernel
theorem dX9_read_9 : decode cX9_read 9 = .ok (.istore_n 2, 1) := by decide +kernel
theorem dX9_read_10 : decode cX9_read 10 = .ok (.aload_n 0, 1) := by decide +kernel
theorem dX9_read_11 : decode cX9_read 11 = .ok (.iconst 0, 1) := by decide +kernel
theorem dX9_read_12 : decode cX9_read 12 = .ok (.putfield 30, 3) := by decide +kernel
theorem dX9_read_15 : decode cX9_read 15 = .ok (.aload_n 0, 1) := by decide +kernel
theorem dX9_read_16 : decode cX9_read 16 = .ok (.iconst 0, 1) := by decide +kernel
theorem dX9_read_17 : decode cX9_read 17 = .ok (.putfield 39, 3) := by decide +kernel
theorem dX9_read_20 : decode cX9_read 20 = .ok (.iload_n 1, 1) := by decide +kernel
theorem dX9_read_21 : decode cX9_read 21 = .ok (.ifCond .lt 8, 3) := by decide +kernel
theorem dX9_read_24 : decode cX9_read 24 = .ok (.iload_n 1, 1) := by decide +kernel
theorem dX9_read_25 : decode cX9_read 25 = .ok (.iconst 1, 1) := by decide +kernel
theorem dX9_read_26 : decode cX9_read 26 = .ok (.if_icmp .le 5, 3) := by decide +kernel
theorem dX9_read_29 : decode cX9_read 29 = .ok (.iconst (-1), 1) := by decide +kernel
theorem dX9_read_30 : decode cX9_read 30 = .ok (.ireturn, 1) := by decide +kernel
theorem dX9_read_31 : decode cX9_read 31 = .ok (.aload_n 0, 1) := by decide +kernel
theorem dX9_read_32 : decode cX9_read 32 = .ok (.iload_n 2, 1) := by decide +kernel
theorem dX9_read_33 : decode cX9_read 33 = .ok (.invokevirtual 93, 3) := by decide +kernel
theorem dX9_read_36 : decode cX9_read 36 = .ok (.ifCond .ne 11, 3) := by decide +kernel
theorem dX9_read_39 : decode cX9_read 39 = .ok (.bipush (-2), 2) := by decide +kernel
theorem dX9_read_41 : decode cX9_read 41 = .ok (.aload_n 0, 1) := by decide +kernel
theorem dX9_read_42 : decode cX9_read 42 = .ok (.getfield 42, 3) := by decide +kernel
theorem dX9_read_45 : decode cX9_read 45 = .ok (.isub, 1) := by decide +kernel
theorem dX9_read_46 : decode cX9_read 46 = .ok (.ireturn, 1) := by decide +kernel
theorem dX9_read_47 : decode cX9_read 47 = .ok (.iconst 0, 1) := by decide +kernel
theorem dX9_read_48 : decode cX9_read 48 = .ok (.istore_n 3, 1) := by decide +kernel
theorem dX9_read_49 : decode cX9_read 49 = .ok (.iload_n 3, 1) := by decide +kernel
theorem dX9_read_50 : decode cX9_read 50 = .ok (.bipush 6, 2) := by decide +kernel
theorem dX9_read_52 : decode cX9_read 52 = .ok (.aload_n 0, 1) := by decide +kernel
theorem dX9_read_53 : decode cX9_read 53 = .ok (.getfield 23, 3) := by decide +kernel
theorem dX9_read_56 : decode cX9_read 56 = .ok (.imul, 1) := by decide +kernel
theorem dX9_read_57 : decode cX9_read 57 = .ok (.if_icmp .ge 27, 3) := by decide +kernel
theorem dX9_read_60 : decode cX9_read 60 = .ok (.aload_n 0, 1) := by decide +kernel
theorem dX9_read_61 : decode cX9_read 61 = .ok (.getfield 13, 3) := by decide +kernel
theorem dX9_read_64 : decode cX9_read 64 = .ok (.sipush 1800, 3) := by decide +kernel
theorem dX9_read_67 : decode cX9_read 67 = .ok (.iload_n 1, 1) := by decide +kernel
theorem dX9_read_68 : decode cX9_read 68 = .ok (.imul, 1) := by decide +kernel
theorem dX9_read_69 : decode cX9_read 69 = .ok (.iload_n 3, 1) := by decide +kernel
theorem dX9_read_70 : decode cX9_read 70 = .ok (.iadd, 1) := by decide +kernel
theorem dX9_read_71 : decode cX9_read 71 = .ok (.aload_n 0, 1) := by decide +kernel
theorem dX9_read_72 : decode cX9_read 72 = .ok (.getfield 20, 3) := by decide +kernel
theorem dX9_read_75 : decode cX9_read 75 = .ok (.iload_n 3, 1) := by decide +kernel
theorem dX9_read_76 : decode cX9_read 76 = .ok (.iaload, 1) := by decide +kernel
theorem dX9_read_77 : decode cX9_read 77 = .ok (.iastore, 1) := by decide +kernel
theorem dX9_read_78 : decode cX9_read 78 = .ok (.iinc 3 1, 3) := by decide +kernel
theorem dX9_read_81 : decode cX9_read 81 = .ok (.goto (-32), 3) := by decide +kernel
theorem dX9_read_84 : decode cX9_read 84 = .ok (.aload_n 0, 1) := by decide +kernel
theorem dX9_read_85 : decode cX9_read 85 = .ok (.getfield 17, 3) := by decide +kernel
theorem dX9_read_88 : decode cX9_read 88 = .ok (.iload_n 1, 1) := by decide +kernel
theorem dX9_read_89 : decode cX9_read 89 = .ok (.aload_n 0, 1) := by decide +kernel
theorem dX9_read_90 : decode cX9_read 90 = .ok (.getfield 23, 3) := by decide +kernel
theorem dX9_read_93 : decode cX9_read 93 = .ok (.iastore, 1) := by decide +kernel
theorem dX9_read_94 : decode cX9_read 94 = .ok (.aload_n 0, 1) := by decide +kernel
theorem dX9_read_95 : decode cX9_read 95 = .ok (.getfield 23, 3) := by decide +kernel
theorem dX9_read_98 : decode cX9_read 98 = .ok (.ireturn, 1) := by decide +kernel
theorem dX9_fault_0 : decode cX9_fault 0 = .ok (.aload_n 0, 1) := by decide +kernel
theorem dX9_fault_1 : decode cX9_fault 1 = .ok (.iconst 0, 1) := by decide +kernel
theorem dX9_fault_2 : decode cX9_fault 2 = .ok (.putfield 7, 3) := by decide +kernel
theorem dX9_fault_5 : decode cX9_fault 5 = .ok (.aload_n 0, 1) := by decide +kernel
theorem dX9_fault_6 : decode cX9_fault 6 = .ok (.getfield 39, 3) := by decide +kernel
theorem dX9_fault_9 : decode cX9_fault 9 = .ok (.ireturn, 1) := by decide +kernel
theorem dX9_put_0 : decode cX9_put 0 = .ok (.aload_n 0, 1) := by decide +kernel
theorem dX9_put_1 : decode cX9_put 1 = .ok (.iconst 0, 1) := by decide +kernel
theorem dX9_put_2 : decode cX9_put 2 = .ok (.putfield 7, 3) := by decide +kernel
theorem dX9_put_5 : decode cX9_put 5 = .ok (.iload_n 1, 1) := by decide +kernel
theorem dX9_put_6 : decode cX9_put 6 = .ok (.ifCond .lt 42, 3) := by decide +kernel
theorem dX9_put_9 : decode cX9_put 9 = .ok (.iload_n 1, 1) := by decide +kernel
theorem dX9_put_10 : decode cX9_put 10 = .ok (.iconst 1, 1) := by decide +kernel
theorem dX9_put_11 : decode cX9_put 11 = .ok (.if_icmp .gt 37, 3) := by decide +kernel
theorem dX9_put_14 : decode cX9_put 14 = .ok (.iload_n 2, 1) := by decide +kernel
theorem dX9_put_15 : decode cX9_put 15 = .ok (.i2l, 1) := by decide +kernel
theorem dX9_put_16 : decode cX9_put 16 = .ok (.ldc2_w 83, 3) := by decide +kernel
theorem dX9_put_19 : decode cX9_put 19 = .ok (.invokestatic 77, 3) := by decide +kernel
theorem dX9_put_22 : decode cX9_put 22 = .ok (.ifCond .eq 26, 3) := by decide +kernel
theorem dX9_put_25 : decode cX9_put 25 = .ok (.iload_n 3, 1) := by decide +kernel
theorem dX9_put_26 : decode cX9_put 26 = .ok (.i2l, 1) := by decide +kernel
theorem dX9_put_27 : decode cX9_put 27 = .ok (.ldc2_w 75, 3) := by decide +kernel
theorem dX9_put_30 : decode cX9_put 30 = .ok (.invokestatic 77, 3) := by decide +kernel
theorem dX9_put_33 : decode cX9_put 33 = .ok (.ifCond .eq 15, 3) := by decide +kernel
theorem dX9_put_36 : decode cX9_put 36 = .ok (.aload_n 0, 1) := by decide +kernel
theorem dX9_put_37 : decode cX9_put 37 = .ok (.getfield 17, 3) := by decide +kernel
theorem dX9_put_40 : decode cX9_put 40 = .ok (.iload_n 1, 1) := by decide +kernel
theorem dX9_put_41 : decode cX9_put 41 = .ok (.iaload, 1) := by decide +kernel
theorem dX9_put_42 : decode cX9_put 42 = .ok (.sipush 300, 3) := by decide +kernel
theorem dX9_put_45 : decode cX9_put 45 = .ok (.if_icmp .ne 5, 3) := by decide +kernel
theorem dX9_put_48 : decode cX9_put 48 = .ok (.iconst (-1), 1) := by decide +kernel
theorem dX9_put_49 : decode cX9_put 49 = .ok (.ireturn, 1) := by decide +kernel
theorem dX9_put_50 : decode cX9_put 50 = .ok (.iload 4, 2) := by decide +kernel
theorem dX9_put_52 : decode cX9_put 52 = .ok (.ifCond .lt 43, 3) := by decide +kernel
theorem dX9_put_55 : decode cX9_put 55 = .ok (.iload 4, 2) := by decide +kernel
theorem dX9_put_57 : decode cX9_put 57 = .ok (.bipush 99, 2) := by decide +kernel
theorem dX9_put_59 : decode cX9_put 59 = .ok (.if_icmp .gt 34, 3) := by decide +kernel
theorem dX9_put_62 : decode cX9_put 62 = .ok (.iload 5, 2) := by decide +kernel
theorem dX9_put_64 : decode cX9_put 64 = .ok (.i2l, 1) := by decide +kernel
theorem dX9_put_65 : decode cX9_put 65 = .ok (.ldc2_w 75, 3) := by decide +kernel
theorem dX9_put_68 : decode cX9_put 68 = .ok (.invokestatic 77, 3) := by decide +kernel
theorem dX9_put_71 : decode cX9_put 71 = .ok (.ifCond .eq 22, 3) := by decide +kernel
theorem dX9_put_74 : decode cX9_put 74 = .ok (.iload 6, 2) := by decide +kernel
theorem dX9_put_76 : decode cX9_put 76 = .ok (.i2l, 1) := by decide +kernel
theorem dX9_put_77 : decode cX9_put 77 = .ok (.ldc2_w 75, 3) := by decide +kernel
theorem dX9_put_80 : decode cX9_put 80 = .ok (.invokestatic 77, 3) := by decide +kernel
theorem dX9_put_83 : decode cX9_put 83 = .ok (.ifCond .eq 10, 3) := by decide +kernel
theorem dX9_put_86 : decode cX9_put 86 = .ok (.iload 7, 2) := by decide +kernel
theorem dX9_put_88 : decode cX9_put 88 = .ok (.bipush 99, 2) := by decide +kernel
theorem dX9_put_90 : decode cX9_put 90 = .ok (.if_icmp .le 5, 3) := by decide +kernel
theorem dX9_put_93 : decode cX9_put 93 = .ok (.iconst (-1), 1) := by decide +kernel
theorem dX9_put_94 : decode cX9_put 94 = .ok (.ireturn, 1) := by decide +kernel
theorem dX9_put_95 : decode cX9_put 95 = .ok (.sipush 1800, 3) := by decide +kernel
theorem dX9_put_98 : decode cX9_put 98 = .ok (.iload_n 1, 1) := by decide +kernel
theorem dX9_put_99 : decode cX9_put 99 = .ok (.imul, 1) := by decide +kernel
theorem dX9_put_100 : decode cX9_put 100 = .ok (.istore 8, 2) := by decide +kernel
theorem dX9_put_102 : decode cX9_put 102 = .ok (.aload_n 0, 1) := by decide +kernel
theorem dX9_put_103 : decode cX9_put 103 = .ok (.getfield 17, 3) := by decide +kernel
theorem dX9_put_106 : decode cX9_put 106 = .ok (.iload_n 1, 1) := by decide +kernel
theorem dX9_put_107 : decode cX9_put 107 = .ok (.iaload, 1) := by decide +kernel
theorem dX9_put_108 : decode cX9_put 108 = .ok (.istore 9, 2) := by decide +kernel
theorem dX9_put_110 : decode cX9_put 110 = .ok (.iload 9, 2) := by decide +kernel
theorem dX9_put_112 : decode cX9_put 112 = .ok (.ifCond .le 78, 3) := by decide +kernel
theorem dX9_put_115 : decode cX9_put 115 = .ok (.aload_n 0, 1) := by decide +kernel
theorem dX9_put_116 : decode cX9_put 116 = .ok (.iload 8, 2) := by decide +kernel
theorem dX9_put_118 : decode cX9_put 118 = .ok (.bipush 6, 2) := by decide +kernel
theorem dX9_put_120 : decode cX9_put 120 = .ok (.iload 9, 2) := by decide +kernel
theorem dX9_put_122 : decode cX9_put 122 = .ok (.iconst 1, 1) := by decide +kernel
theorem dX9_put_123 : decode cX9_put 123 = .ok (.isub, 1) := by decide +kernel
theorem dX9_put_124 : decode cX9_put 124 = .ok (.imul, 1) := by decide +kernel
theorem dX9_put_125 : decode cX9_put 125 = .ok (.iadd, 1) := by decide +kernel
theorem dX9_put_126 : decode cX9_put 126 = .ok (.iload_n 2, 1) := by decide +kernel
theorem dX9_put_127 : decode cX9_put 127 = .ok (.iload_n 3, 1) := by decide +kernel
theorem dX9_put_128 : decode cX9_put 128 = .ok (.invokevirtual 96, 3) := by decide +kernel
theorem dX9_put_131 : decode cX9_put 131 = .ok (.ifCond .eq 59, 3) := by decide +kernel
theorem dX9_put_134 : decode cX9_put 134 = .ok (.iconst 0, 1) := by decide +kernel
theorem dX9_put_135 : decode cX9_put 135 = .ok (.istore 10, 2) := by decide +kernel
theorem dX9_put_137 : decode cX9_put 137 = .ok (.iload 10, 2) := by decide +kernel
theorem dX9_put_139 : decode cX9_put 139 = .ok (.bipush 6, 2) := by decide +kernel
theorem dX9_put_141 : decode cX9_put 141 = .ok (.if_icmp .ge 43, 3) := by decide +kernel
theorem dX9_put_144 : decode cX9_put 144 = .ok (.aload_n 0, 1) := by decide +kernel
theorem dX9_put_145 : decode cX9_put 145 = .ok (.getfield 13, 3) := by decide +kernel
theorem dX9_put_148 : decode cX9_put 148 = .ok (.iload 8, 2) := by decide +kernel
theorem dX9_put_150 : decode cX9_put 150 = .ok (.bipush 6, 2) := by decide +kernel
theorem dX9_put_152 : decode cX9_put 152 = .ok (.iload 9, 2) := by decide +kernel
theorem dX9_put_154 : decode cX9_put 154 = .ok (.imul, 1) := by decide +kernel
theorem dX9_put_155 : decode cX9_put 155 = .ok (.iadd, 1) := by decide +kernel
theorem dX9_put_156 : decode cX9_put 156 = .ok (.iload 10, 2) := by decide +kernel
theorem dX9_put_158 : decode cX9_put 158 = .ok (.iadd, 1) := by decide +kernel
theorem dX9_put_159 : decode cX9_put 159 = .ok (.aload_n 0, 1) := by decide +kernel
theorem dX9_put_160 : decode cX9_put 160 = .ok (.getfield 13, 3) := by decide +kernel
theorem dX9_put_163 : decode cX9_put 163 = .ok (.iload 8, 2) := by decide +kernel
theorem dX9_put_165 : decode cX9_put 165 = .ok (.bipush 6, 2) := by decide +kernel
theorem dX9_put_167 : decode cX9_put 167 = .ok (.iload 9, 2) := by decide +kernel
theorem dX9_put_169 : decode cX9_put 169 = .ok (.iconst 1, 1) := by decide +kernel
theorem dX9_put_170 : decode cX9_put 170 = .ok (.isub, 1) := by decide +kernel
theorem dX9_put_171 : decode cX9_put 171 = .ok (.imul, 1) := by decide +kernel
theorem dX9_put_172 : decode cX9_put 172 = .ok (.iadd, 1) := by decide +kernel
theorem dX9_put_173 : decode cX9_put 173 = .ok (.iload 10, 2) := by decide +kernel
theorem dX9_put_175 : decode cX9_put 175 = .ok (.iadd, 1) := by decide +kernel
theorem dX9_put_176 : decode cX9_put 176 = .ok (.iaload, 1) := by decide +kernel
theorem dX9_put_177 : decode cX9_put 177 = .ok (.iastore, 1) := by decide +kernel
theorem dX9_put_178 : decode cX9_put 178 = .ok (.iinc 10 1, 3) := by decide +kernel
theorem dX9_put_181 : decode cX9_put 181 = .ok (.goto (-44), 3) := by decide +kernel
theorem dX9_put_184 : decode cX9_put 184 = .ok (.iinc 9 (-1), 3) := by decide +kernel
theorem dX9_put_187 : decode cX9_put 187 = .ok (.goto (-77), 3) := by decide +kernel
theorem dX9_put_190 : decode cX9_put 190 = .ok (.iload 8, 2) := by decide +kernel
theorem dX9_put_192 : decode cX9_put 192 = .ok (.bipush 6, 2) := by decide +kernel
theorem dX9_put_194 : decode cX9_put 194 = .ok (.iload 9, 2) := by decide +kernel
theorem dX9_put_196 : decode cX9_put 196 = .ok (.imul, 1) := by decide +kernel
theorem dX9_put_197 : decode cX9_put 197 = .ok (.iadd, 1) := by decide +kernel
theorem dX9_put_198 : decode cX9_put 198 = .ok (.istore 10, 2) := by decide +kernel
theorem dX9_put_200 : decode cX9_put 200 = .ok (.aload_n 0, 1) := by decide +kernel
theorem dX9_put_201 : decode cX9_put 201 = .ok (.getfield 13, 3) := by decide +kernel
theorem dX9_put_204 : decode cX9_put 204 = .ok (.iload 10, 2) := by decide +kernel
theorem dX9_put_206 : decode cX9_put 206 = .ok (.iload_n 2, 1) := by decide +kernel
theorem dX9_put_207 : decode cX9_put 207 = .ok (.iastore, 1) := by decide +kernel
theorem dX9_put_208 : decode cX9_put 208 = .ok (.aload_n 0, 1) := by decide +kernel
theorem dX9_put_209 : decode cX9_put 209 = .ok (.getfield 13, 3) := by decide +kernel
theorem dX9_put_212 : decode cX9_put 212 = .ok (.iload 10, 2) := by decide +kernel
theorem dX9_put_214 : decode cX9_put 214 = .ok (.iconst 1, 1) := by decide +kernel
theorem dX9_put_215 : decode cX9_put 215 = .ok (.iadd, 1) := by decide +kernel
theorem dX9_put_216 : decode cX9_put 216 = .ok (.iload_n 3, 1) := by decide +kernel
theorem dX9_put_217 : decode cX9_put 217 = .ok (.iastore, 1) := by decide +kernel
theorem dX9_put_218 : decode cX9_put 218 = .ok (.aload_n 0, 1) := by decide +kernel
theorem dX9_put_219 : decode cX9_put 219 = .ok (.getfield 13, 3) := by decide +kernel
theorem dX9_put_222 : decode cX9_put 222 = .ok (.iload 10, 2) := by decide +kernel
theorem dX9_put_224 : decode cX9_put 224 = .ok (.iconst 2, 1) := by decide +kernel
theorem dX9_put_225 : decode cX9_put 225 = .ok (.iadd, 1) := by decide +kernel
theorem dX9_put_226 : decode cX9_put 226 = .ok (.iload 4, 2) := by decide +kernel
theorem dX9_put_228 : decode cX9_put 228 = .ok (.ifCond .ge 7, 3) := by decide +kernel
theorem dX9_put_231 : decode cX9_put 231 = .ok (.iconst (-1), 1) := by decide +kernel
theorem dX9_put_232 : decode cX9_put 232 = .ok (.goto 5, 3) := by decide +kernel
theorem dX9_put_235 : decode cX9_put 235 = .ok (.iload 4, 2) := by decide +kernel
theorem dX9_put_237 : decode cX9_put 237 = .ok (.iastore, 1) := by decide +kernel
theorem dX9_put_238 : decode cX9_put 238 = .ok (.aload_n 0, 1) := by decide +kernel
theorem dX9_put_239 : decode cX9_put 239 = .ok (.getfield 13, 3) := by decide +kernel
theorem dX9_put_242 : decode cX9_put 242 = .ok (.iload 10, 2) := by decide +kernel
theorem dX9_put_244 : decode cX9_put 244 = .ok (.iconst 3, 1) := by decide +kernel
theorem dX9_put_245 : decode cX9_put 245 = .ok (.iadd, 1) := by decide +kernel
theorem dX9_put_246 : decode cX9_put 246 = .ok (.iload 4, 2) := by decide +kernel
theorem dX9_put_248 : decode cX9_put 248 = .ok (.ifCond .ge 7, 3) := by decide +kernel
theorem dX9_put_251 : decode cX9_put 251 = .ok (.iconst 0, 1) := by decide +kernel
theorem dX9_put_252 : decode cX9_put 252 = .ok (.goto 5, 3) := by decide +kernel
theorem dX9_put_255 : decode cX9_put 255 = .ok (.iload 5, 2) := by decide +kernel
theorem dX9_put_257 : decode cX9_put 257 = .ok (.iastore, 1) := by decide +kernel
theorem dX9_put_258 : decode cX9_put 258 = .ok (.aload_n 0, 1) := by decide +kernel
theorem dX9_put_259 : decode cX9_put 259 = .ok (.getfield 13, 3) := by decide +kernel
theorem dX9_put_262 : decode cX9_put 262 = .ok (.iload 10, 2) := by decide +kernel
theorem dX9_put_264 : decode cX9_put 264 = .ok (.iconst 4, 1) := by decide +kernel
theorem dX9_put_265 : decode cX9_put 265 = .ok (.iadd, 1) := by decide +kernel
theorem dX9_put_266 : decode cX9_put 266 = .ok (.iload 4, 2) := by decide +kernel
theorem dX9_put_268 : decode cX9_put 268 = .ok (.ifCond .ge 7, 3) := by decide +kernel
theorem dX9_put_271 : decode cX9_put 271 = .ok (.iconst 0, 1) := by decide +kernel
theorem dX9_put_272 : decode cX9_put 272 = .ok (.goto 5, 3) := by decide +kernel
theorem dX9_put_275 : decode cX9_put 275 = .ok (.iload 6, 2) := by decide +kernel
theorem dX9_put_277 : decode cX9_put 277 = .ok (.iastore, 1) := by decide +kernel
theorem dX9_put_278 : decode cX9_put 278 = .ok (.aload_n 0, 1) := by decide +kernel
theorem dX9_put_279 : decode cX9_put 279 = .ok (.getfield 13, 3) := by decide +kernel
theorem dX9_put_282 : decode cX9_put 282 = .ok (.iload 10, 2) := by decide +kernel
theorem dX9_put_284 : decode cX9_put 284 = .ok (.iconst 5, 1) := by decide +kernel
theorem dX9_put_285 : decode cX9_put 285 = .ok (.iadd, 1) := by decide +kernel
theorem dX9_put_286 : decode cX9_put 286 = .ok (.iload 4, 2) := by decide +kernel
theorem dX9_put_288 : decode cX9_put 288 = .ok (.ifCond .lt 8, 3) := by decide +kernel
theorem dX9_put_291 : decode cX9_put 291 = .ok (.iload 7, 2) := by decide +kernel
theorem dX9_put_293 : decode cX9_put 293 = .ok (.ifCond .ge 7, 3) := by decide +kernel
theorem dX9_put_296 : decode cX9_put 296 = .ok (.iconst (-1), 1) := by decide +kernel
theorem dX9_put_297 : decode cX9_put 297 = .ok (.goto 5, 3) := by decide +kernel
theorem dX9_put_300 : decode cX9_put 300 = .ok (.iload 7, 2) := by decide +kernel
theorem dX9_put_302 : decode cX9_put 302 = .ok (.iastore, 1) := by decide +kernel
theorem dX9_put_303 : decode cX9_put 303 = .ok (.aload_n 0, 1) := by decide +kernel
theorem dX9_put_304 : decode cX9_put 304 = .ok (.getfield 17, 3) := by decide +kernel
theorem dX9_put_307 : decode cX9_put 307 = .ok (.iload_n 1, 1) := by decide +kernel
theorem dX9_put_308 : decode cX9_put 308 = .ok (.dup2, 1) := by decide +kernel
theorem dX9_put_309 : decode cX9_put 309 = .ok (.iaload, 1) := by decide +kernel
theorem dX9_put_310 : decode cX9_put 310 = .ok (.iconst 1, 1) := by decide +kernel
theorem dX9_put_311 : decode cX9_put 311 = .ok (.iadd, 1) := by decide +kernel
theorem dX9_put_312 : decode cX9_put 312 = .ok (.iastore, 1) := by decide +kernel
theorem dX9_put_313 : decode cX9_put 313 = .ok (.aload_n 0, 1) := by decide +kernel
theorem dX9_put_314 : decode cX9_put 314 = .ok (.getfield 17, 3) := by decide +kernel
theorem dX9_put_317 : decode cX9_put 317 = .ok (.iload_n 1, 1) := by decide +kernel
theorem dX9_put_318 : decode cX9_put 318 = .ok (.iaload, 1) := by decide +kernel
theorem dX9_put_319 : decode cX9_put 319 = .ok (.ireturn, 1) := by decide +kernel
theorem dX9_isBefore_0 : decode cX9_isBefore 0 = .ok (.iload_n 2, 1) := by decide +kernel
theorem dX9_isBefore_1 : decode cX9_isBefore 1 = .ok (.aload_n 0, 1) := by decide +kernel
theorem dX9_isBefore_2 : decode cX9_isBefore 2 = .ok (.getfield 13, 3) := by decide +kernel
theorem dX9_isBefore_5 : decode cX9_isBefore 5 = .ok (.iload_n 1, 1) := by decide +kernel
theorem dX9_isBefore_6 : decode cX9_isBefore 6 = .ok (.iaload, 1) := by decide +kernel
theorem dX9_isBefore_7 : decode cX9_isBefore 7 = .ok (.if_icmp .lt 25, 3) := by decide +kernel
theorem dX9_isBefore_10 : decode cX9_isBefore 10 = .ok (.iload_n 2, 1) := by decide +kernel
theorem dX9_isBefore_11 : decode cX9_isBefore 11 = .ok (.aload_n 0, 1) := by decide +kernel
theorem dX9_isBefore_12 : decode cX9_isBefore 12 = .ok (.getfield 13, 3) := by decide +kernel
theorem dX9_isBefore_15 : decode cX9_isBefore 15 = .ok (.iload_n 1, 1) := by decide +kernel
theorem dX9_isBefore_16 : decode cX9_isBefore 16 = .ok (.iaload, 1) := by decide +kernel
theorem dX9_isBefore_17 : decode cX9_isBefore 17 = .ok (.if_icmp .ne 19, 3) := by decide +kernel
theorem dX9_isBefore_20 : decode cX9_isBefore 20 = .ok (.iload_n 3, 1) := by decide +kernel
theorem dX9_isBefore_21 : decode cX9_isBefore 21 = .ok (.aload_n 0, 1) := by decide +kernel
theorem dX9_isBefore_22 : decode cX9_isBefore 22 = .ok (.getfield 13, 3) := by decide +kernel
theorem dX9_isBefore_25 : decode cX9_isBefore 25 = .ok (.iload_n 1, 1) := by decide +kernel
theorem dX9_isBefore_26 : decode cX9_isBefore 26 = .ok (.iconst 1, 1) := by decide +kernel
theorem dX9_isBefore_27 : decode cX9_isBefore 27 = .ok (.iadd, 1) := by decide +kernel
theorem dX9_isBefore_28 : decode cX9_isBefore 28 = .ok (.iaload, 1) := by decide +kernel
theorem dX9_isBefore_29 : decode cX9_isBefore 29 = .ok (.if_icmp .ge 7, 3) := by decide +kernel
theorem dX9_isBefore_32 : decode cX9_isBefore 32 = .ok (.iconst 1, 1) := by decide +kernel
theorem dX9_isBefore_33 : decode cX9_isBefore 33 = .ok (.goto 4, 3) := by decide +kernel
theorem dX9_isBefore_36 : decode cX9_isBefore 36 = .ok (.iconst 0, 1) := by decide +kernel
theorem dX9_isBefore_37 : decode cX9_isBefore 37 = .ok (.ireturn, 1) := by decide +kernel
theorem dX9_add_0 : decode cX9_add 0 = .ok (.aload_n 0, 1) := by decide +kernel
theorem dX9_add_1 : decode cX9_add 1 = .ok (.getfield 62, 3) := by decide +kernel
theorem dX9_add_4 : decode cX9_add 4 = .ok (.sipush 6000, 3) := by decide +kernel
theorem dX9_add_7 : decode cX9_add 7 = .ok (.if_icmp .ne 9, 3) := by decide +kernel
theorem dX9_add_10 : decode cX9_add 10 = .ok (.aload_n 0, 1) := by decide +kernel
theorem dX9_add_11 : decode cX9_add 11 = .ok (.iconst 0, 1) := by decide +kernel
theorem dX9_add_12 : decode cX9_add 12 = .ok (.putfield 55, 3) := by decide +kernel
theorem dX9_add_15 : decode cX9_add 15 = .ok (.return_, 1) := by decide +kernel
theorem dX9_add_16 : decode cX9_add 16 = .ok (.aload_n 0, 1) := by decide +kernel
theorem dX9_add_17 : decode cX9_add 17 = .ok (.getfield 59, 3) := by decide +kernel
theorem dX9_add_20 : decode cX9_add 20 = .ok (.aload_n 0, 1) := by decide +kernel
theorem dX9_add_21 : decode cX9_add 21 = .ok (.getfield 62, 3) := by decide +kernel
theorem dX9_add_24 : decode cX9_add 24 = .ok (.iload_n 1, 1) := by decide +kernel
theorem dX9_add_25 : decode cX9_add 25 = .ok (.i2b, 1) := by decide +kernel
theorem dX9_add_26 : decode cX9_add 26 = .ok (.bastore, 1) := by decide +kernel
theorem dX9_add_27 : decode cX9_add 27 = .ok (.aload_n 0, 1) := by decide +kernel
theorem dX9_add_28 : decode cX9_add 28 = .ok (.dup, 1) := by decide +kernel
theorem dX9_add_29 : decode cX9_add 29 = .ok (.getfield 62, 3) := by decide +kernel
theorem dX9_add_32 : decode cX9_add 32 = .ok (.iconst 1, 1) := by decide +kernel
theorem dX9_add_33 : decode cX9_add 33 = .ok (.iadd, 1) := by decide +kernel
theorem dX9_add_34 : decode cX9_add 34 = .ok (.putfield 62, 3) := by decide +kernel
theorem dX9_add_37 : decode cX9_add 37 = .ok (.return_, 1) := by decide +kernel
theorem dX9_addNumber_0 : decode cX9_addNumber 0 = .ok (.iload_n 1, 1) := by decide +kernel
theorem dX9_addNumber_1 : decode cX9_addNumber 1 = .ok (.ifCond .ge 15, 3) := by decide +kernel
theorem dX9_addNumber_4 : decode cX9_addNumber 4 = .ok (.iload_n 1, 1) := by decide +kernel
theorem dX9_addNumber_5 : decode cX9_addNumber 5 = .ok (.i2l, 1) := by decide +kernel
theorem dX9_addNumber_6 : decode cX9_addNumber 6 = .ok (.lneg, 1) := by decide +kernel
theorem dX9_addNumber_7 : decode cX9_addNumber 7 = .ok (.ldc2_w 100, 3) := by decide +kernel
theorem dX9_addNumber_10 : decode cX9_addNumber 10 = .ok (.lmul, 1) := by decide +kernel
theorem dX9_addNumber_11 : decode cX9_addNumber 11 = .ok (.lconst 1, 1) := by decide +kernel
theorem dX9_addNumber_12 : decode cX9_addNumber 12 = .ok (.ladd, 1) := by decide +kernel
theorem dX9_addNumber_13 : decode cX9_addNumber 13 = .ok (.goto 9, 3) := by decide +kernel
theorem dX9_addNumber_16 : decode cX9_addNumber 16 = .ok (.iload_n 1, 1) := by decide +kernel
theorem dX9_addNumber_17 : decode cX9_addNumber 17 = .ok (.i2l, 1) := by decide +kernel
theorem dX9_addNumber_18 : decode cX9_addNumber 18 = .ok (.ldc2_w 100, 3) := by decide +kernel
theorem dX9_addNumber_21 : decode cX9_addNumber 21 = .ok (.lmul, 1) := by decide +kernel
theorem dX9_addNumber_22 : decode cX9_addNumber 22 = .ok (.lstore_n 2, 1) := by decide +kernel
theorem dX9_addNumber_23 : decode cX9_addNumber 23 = .ok (.iconst 1, 1) := by decide +kernel
theorem dX9_addNumber_24 : decode cX9_addNumber 24 = .ok (.istore 4, 2) := by decide +kernel
theorem dX9_addNumber_26 : decode cX9_addNumber 26 = .ok (.iload 4, 2) := by decide +kernel
theorem dX9_addNumber_28 : decode cX9_addNumber 28 = .ok (.ifCond .eq 53, 3) := by decide +kernel
theorem dX9_addNumber_31 : decode cX9_addNumber 31 = .ok (.lload_n 2, 1) := by decide +kernel
theorem dX9_addNumber_32 : decode cX9_addNumber 32 = .ok (.ldc2_w 102, 3) := by decide +kernel
theorem dX9_addNumber_35 : decode cX9_addNumber 35 = .ok (.land, 1) := by decide +kernel
theorem dX9_addNumber_36 : decode cX9_addNumber 36 = .ok (.l2i, 1) := by decide +kernel
theorem dX9_addNumber_37 : decode cX9_addNumber 37 = .ok (.istore 5, 2) := by decide +kernel
theorem dX9_addNumber_39 : decode cX9_addNumber 39 = .ok (.lload_n 2, 1) := by decide +kernel
theorem dX9_addNumber_40 : decode cX9_addNumber 40 = .ok (.iconst 5, 1) := by decide +kernel
theorem dX9_addNumber_41 : decode cX9_addNumber 41 = .ok (.lshr, 1) := by decide +kernel
theorem dX9_addNumber_42 : decode cX9_addNumber 42 = .ok (.lstore_n 2, 1) := by decide +kernel
theorem dX9_addNumber_43 : decode cX9_addNumber 43 = .ok (.lload_n 2, 1) := by decide +kernel
theorem dX9_addNumber_44 : decode cX9_addNumber 44 = .ok (.lconst 0, 1) := by decide +kernel
theorem dX9_addNumber_45 : decode cX9_addNumber 45 = .ok (.lcmp, 1) := by decide +kernel
theorem dX9_addNumber_46 : decode cX9_addNumber 46 = .ok (.ifCond .le 7, 3) := by decide +kernel
theorem dX9_addNumber_49 : decode cX9_addNumber 49 = .ok (.iconst 1, 1) := by decide +kernel
theorem dX9_addNumber_50 : decode cX9_addNumber 50 = .ok (.goto 4, 3) := by decide +kernel
theorem dX9_addNumber_53 : decode cX9_addNumber 53 = .ok (.iconst 0, 1) := by decide +kernel
theorem dX9_addNumber_54 : decode cX9_addNumber 54 = .ok (.istore 4, 2) := by decide +kernel
theorem dX9_addNumber_56 : decode cX9_addNumber 56 = .ok (.aload_n 0, 1) := by decide +kernel
theorem dX9_addNumber_57 : decode cX9_addNumber 57 = .ok (.iload 4, 2) := by decide +kernel
theorem dX9_addNumber_59 : decode cX9_addNumber 59 = .ok (.ifCond .eq 11, 3) := by decide +kernel
theorem dX9_addNumber_62 : decode cX9_addNumber 62 = .ok (.iload 5, 2) := by decide +kernel
theorem dX9_addNumber_64 : decode cX9_addNumber 64 = .ok (.bipush 32, 2) := by decide +kernel
theorem dX9_addNumber_66 : decode cX9_addNumber 66 = .ok (.iadd, 1) := by decide +kernel
theorem dX9_addNumber_67 : decode cX9_addNumber 67 = .ok (.goto 5, 3) := by decide +kernel
theorem dX9_addNumber_70 : decode cX9_addNumber 70 = .ok (.iload 5, 2) := by decide +kernel
theorem dX9_addNumber_72 : decode cX9_addNumber 72 = .ok (.invokestatic 104, 3) := by decide +kernel
theorem dX9_addNumber_75 : decode cX9_addNumber 75 = .ok (.invokevirtual 107, 3) := by decide +kernel
theorem dX9_addNumber_78 : decode cX9_addNumber 78 = .ok (.goto (-52), 3) := by decide +kernel
theorem dX9_addNumber_81 : decode cX9_addNumber 81 = .ok (.return_, 1) := by decide +kernel
theorem dX9_write_0 : decode cX9_write 0 = .ok (.aload_n 0, 1) := by decide +kernel
theorem dX9_write_1 : decode cX9_write 1 = .ok (.iconst 0, 1) := by decide +kernel
theorem dX9_write_2 : decode cX9_write 2 = .ok (.putfield 7, 3) := by decide +kernel
theorem dX9_write_5 : decode cX9_write 5 = .ok (.iload_n 1, 1) := by decide +kernel
theorem dX9_write_6 : decode cX9_write 6 = .ok (.ifCond .lt 8, 3) := by decide +kernel
theorem dX9_write_9 : decode cX9_write 9 = .ok (.iload_n 1, 1) := by decide +kernel
theorem dX9_write_10 : decode cX9_write 10 = .ok (.iconst 1, 1) := by decide +kernel
theorem dX9_write_11 : decode cX9_write 11 = .ok (.if_icmp .le 5, 3) := by decide +kernel
theorem dX9_write_14 : decode cX9_write 14 = .ok (.iconst (-1), 1) := by decide +kernel
theorem dX9_write_15 : decode cX9_write 15 = .ok (.ireturn, 1) := by decide +kernel
theorem dX9_write_16 : decode cX9_write 16 = .ok (.aload_n 0, 1) := by decide +kernel
theorem dX9_write_17 : decode cX9_write 17 = .ok (.iconst 1, 1) := by decide +kernel
theorem dX9_write_18 : decode cX9_write 18 = .ok (.putfield 55, 3) := by decide +kernel
theorem dX9_write_21 : decode cX9_write 21 = .ok (.aload_n 0, 1) := by decide +kernel
theorem dX9_write_22 : decode cX9_write 22 = .ok (.iconst 0, 1) := by decide +kernel
theorem dX9_write_23 : decode cX9_write 23 = .ok (.putfield 62, 3) := by decide +kernel
theorem dX9_write_26 : decode cX9_write 26 = .ok (.iconst 0, 1) := by decide +kernel
theorem dX9_write_27 : decode cX9_write 27 = .ok (.istore_n 2, 1) := by decide +kernel
theorem dX9_write_28 : decode cX9_write 28 = .ok (.iconst 0, 1) := by decide +kernel
theorem dX9_write_29 : decode cX9_write 29 = .ok (.istore_n 3, 1) := by decide +kernel
theorem dX9_write_30 : decode cX9_write 30 = .ok (.iconst 0, 1) := by decide +kernel
theorem dX9_write_31 : decode cX9_write 31 = .ok (.istore 4, 2) := by decide +kernel
theorem dX9_write_33 : decode cX9_write 33 = .ok (.iconst 0, 1) := by decide +kernel
theorem dX9_write_34 : decode cX9_write 34 = .ok (.istore 5, 2) := by decide +kernel
theorem dX9_write_36 : decode cX9_write 36 = .ok (.iconst 0, 1) := by decide +kernel
theorem dX9_write_37 : decode cX9_write 37 = .ok (.istore 6, 2) := by decide +kernel
theorem dX9_write_39 : decode cX9_write 39 = .ok (.iconst 0, 1) := by decide +kernel
theorem dX9_write_40 : decode cX9_write 40 = .ok (.istore 7, 2) := by decide +kernel
theorem dX9_write_42 : decode cX9_write 42 = .ok (.iconst 1, 1) := by decide +kernel
theorem dX9_write_43 : decode cX9_write 43 = .ok (.istore 8, 2) := by decide +kernel
theorem dX9_write_45 : decode cX9_write 45 = .ok (.iconst 0, 1) := by decide +kernel
theorem dX9_write_46 : decode cX9_write 46 = .ok (.istore 9, 2) := by decide +kernel
theorem dX9_write_48 : decode cX9_write 48 = .ok (.iload 9, 2) := by decide +kernel
theorem dX9_write_50 : decode cX9_write 50 = .ok (.aload_n 0, 1) := by decide +kernel
theorem dX9_write_51 : decode cX9_write 51 = .ok (.getfield 17, 3) := by decide +kernel
theorem dX9_write_54 : decode cX9_write 54 = .ok (.iload_n 1, 1) := by decide +kernel
theorem dX9_write_55 : decode cX9_write 55 = .ok (.iaload, 1) := by decide +kernel
theorem dX9_write_56 : decode cX9_write 56 = .ok (.if_icmp .ge 227, 3) := by decide +kernel
theorem dX9_write_59 : decode cX9_write 59 = .ok (.sipush 1800, 3) := by decide +kernel
theorem dX9_write_62 : decode cX9_write 62 = .ok (.iload_n 1, 1) := by decide +kernel
theorem dX9_write_63 : decode cX9_write 63 = .ok (.imul, 1) := by decide +kernel
theorem dX9_write_64 : decode cX9_write 64 = .ok (.bipush 6, 2) := by decide +kernel
theorem dX9_write_66 : decode cX9_write 66 = .ok (.iload 9, 2) := by decide +kernel
theorem dX9_write_68 : decode cX9_write 68 = .ok (.imul, 1) := by decide +kernel
theorem dX9_write_69 : decode cX9_write 69 = .ok (.iadd, 1) := by decide +kernel
theorem dX9_write_70 : decode cX9_write 70 = .ok (.istore 10, 2) := by decide +kernel
theorem dX9_write_72 : decode cX9_write 72 = .ok (.iload_n 2, 1) := by decide +kernel
theorem dX9_write_73 : decode cX9_write 73 = .ok (.aload_n 0, 1) := by decide +kernel
theorem dX9_write_74 : decode cX9_write 74 = .ok (.getfield 13, 3) := by decide +kernel
theorem dX9_write_77 : decode cX9_write 77 = .ok (.iload 10, 2) := by decide +kernel
theorem dX9_write_79 : decode cX9_write 79 = .ok (.iaload, 1) := by decide +kernel
theorem dX9_write_80 : decode cX9_write 80 = .ok (.if_icmp .ge 20, 3) := by decide +kernel
theorem dX9_write_83 : decode cX9_write 83 = .ok (.aload_n 0, 1) := by decide +kernel
theorem dX9_write_84 : decode cX9_write 84 = .ok (.bipush 59, 2) := by decide +kernel
theorem dX9_write_86 : decode cX9_write 86 = .ok (.invokevirtual 107, 3) := by decide +kernel
theorem dX9_write_89 : decode cX9_write 89 = .ok (.iinc 2 1, 3) := by decide +kernel
theorem dX9_write_92 : decode cX9_write 92 = .ok (.iconst 0, 1) := by decide +kernel
theorem dX9_write_93 : decode cX9_write 93 = .ok (.istore_n 3, 1) := by decide +kernel
theorem dX9_write_94 : decode cX9_write 94 = .ok (.iconst 1, 1) := by decide +kernel
theorem dX9_write_95 : decode cX9_write 95 = .ok (.istore 8, 2) := by decide +kernel
theorem dX9_write_97 : decode cX9_write 97 = .ok (.goto (-25), 3) := by decide +kernel
theorem dX9_write_100 : decode cX9_write 100 = .ok (.iload 8, 2) := by decide +kernel
theorem dX9_write_102 : decode cX9_write 102 = .ok (.ifCond .ne 9, 3) := by decide +kernel
theorem dX9_write_105 : decode cX9_write 105 = .ok (.aload_n 0, 1) := by decide +kernel
theorem dX9_write_106 : decode cX9_write 106 = .ok (.bipush 44, 2) := by decide +kernel
theorem dX9_write_108 : decode cX9_write 108 = .ok (.invokevirtual 107, 3) := by decide +kernel
theorem dX9_write_111 : decode cX9_write 111 = .ok (.iconst 0, 1) := by decide +kernel
theorem dX9_write_112 : decode cX9_write 112 = .ok (.istore 8, 2) := by decide +kernel
theorem dX9_write_114 : decode cX9_write 114 = .ok (.aload_n 0, 1) := by decide +kernel
theorem dX9_write_115 : decode cX9_write 115 = .ok (.aload_n 0, 1) := by decide +kernel
theorem dX9_write_116 : decode cX9_write 116 = .ok (.getfield 13, 3) := by decide +kernel
theorem dX9_write_119 : decode cX9_write 119 = .ok (.iload 10, 2) := by decide +kernel
theorem dX9_write_121 : decode cX9_write 121 = .ok (.iconst 1, 1) := by decide +kernel
theorem dX9_write_122 : decode cX9_write 122 = .ok (.iadd, 1) := by decide +kernel
theorem dX9_write_123 : decode cX9_write 123 = .ok (.iaload, 1) := by decide +kernel
theorem dX9_write_124 : decode cX9_write 124 = .ok (.iload_n 3, 1) := by decide +kernel
theorem dX9_write_125 : decode cX9_write 125 = .ok (.isub, 1) := by decide +kernel
theorem dX9_write_126 : decode cX9_write 126 = .ok (.invokevirtual 111, 3) := by decide +kernel
theorem dX9_write_129 : decode cX9_write 129 = .ok (.aload_n 0, 1) := by decide +kernel
theorem dX9_write_130 : decode cX9_write 130 = .ok (.getfield 13, 3) := by decide +kernel
theorem dX9_write_133 : decode cX9_write 133 = .ok (.iload 10, 2) := by decide +kernel
theorem dX9_write_135 : decode cX9_write 135 = .ok (.iconst 1, 1) := by decide +kernel
theorem dX9_write_136 : decode cX9_write 136 = .ok (.iadd, 1) := by decide +kernel
theorem dX9_write_137 : decode cX9_write 137 = .ok (.iaload, 1) := by decide +kernel
theorem dX9_write_138 : decode cX9_write 138 = .ok (.istore_n 3, 1) := by decide +kernel
theorem dX9_write_139 : decode cX9_write 139 = .ok (.aload_n 0, 1) := by decide +kernel
theorem dX9_write_140 : decode cX9_write 140 = .ok (.getfield 13, 3) := by decide +kernel
theorem dX9_write_143 : decode cX9_write 143 = .ok (.iload 10, 2) := by decide +kernel
theorem dX9_write_145 : decode cX9_write 145 = .ok (.iconst 2, 1) := by decide +kernel
theorem dX9_write_146 : decode cX9_write 146 = .ok (.iadd, 1) := by decide +kernel
theorem dX9_write_147 : decode cX9_write 147 = .ok (.iaload, 1) := by decide +kernel
theorem dX9_write_148 : decode cX9_write 148 = .ok (.ifCond .ge 6, 3) := by decide +kernel
theorem dX9_write_151 : decode cX9_write 151 = .ok (.goto 126, 3) := by decide +kernel
theorem dX9_write_154 : decode cX9_write 154 = .ok (.aload_n 0, 1) := by decide +kernel
theorem dX9_write_155 : decode cX9_write 155 = .ok (.aload_n 0, 1) := by decide +kernel
theorem dX9_write_156 : decode cX9_write 156 = .ok (.getfield 13, 3) := by decide +kernel
theorem dX9_write_159 : decode cX9_write 159 = .ok (.iload 10, 2) := by decide +kernel
theorem dX9_write_161 : decode cX9_write 161 = .ok (.iconst 2, 1) := by decide +kernel
theorem dX9_write_162 : decode cX9_write 162 = .ok (.iadd, 1) := by decide +kernel
theorem dX9_write_163 : decode cX9_write 163 = .ok (.iaload, 1) := by decide +kernel
theorem dX9_write_164 : decode cX9_write 164 = .ok (.iload 4, 2) := by decide +kernel
theorem dX9_write_166 : decode cX9_write 166 = .ok (.isub, 1) := by decide +kernel
theorem dX9_write_167 : decode cX9_write 167 = .ok (.invokevirtual 111, 3) := by decide +kernel
theorem dX9_write_170 : decode cX9_write 170 = .ok (.aload_n 0, 1) := by decide +kernel
theorem dX9_write_171 : decode cX9_write 171 = .ok (.aload_n 0, 1) := by decide +kernel
theorem dX9_write_172 : decode cX9_write 172 = .ok (.getfield 13, 3) := by decide +kernel
theorem dX9_write_175 : decode cX9_write 175 = .ok (.iload 10, 2) := by decide +kernel
theorem dX9_write_177 : decode cX9_write 177 = .ok (.iconst 3, 1) := by decide +kernel
theorem dX9_write_178 : decode cX9_write 178 = .ok (.iadd, 1) := by decide +kernel
theorem dX9_write_179 : decode cX9_write 179 = .ok (.iaload, 1) := by decide +kernel
theorem dX9_write_180 : decode cX9_write 180 = .ok (.iload 5, 2) := by decide +kernel
theorem dX9_write_182 : decode cX9_write 182 = .ok (.isub, 1) := by decide +kernel
theorem dX9_write_183 : decode cX9_write 183 = .ok (.invokevirtual 111, 3) := by decide +kernel
theorem dX9_write_186 : decode cX9_write 186 = .ok (.aload_n 0, 1) := by decide +kernel
theorem dX9_write_187 : decode cX9_write 187 = .ok (.aload_n 0, 1) := by decide +kernel
theorem dX9_write_188 : decode cX9_write 188 = .ok (.getfield 13, 3) := by decide +kernel
theorem dX9_write_191 : decode cX9_write 191 = .ok (.iload 10, 2) := by decide +kernel
theorem dX9_write_193 : decode cX9_write 193 = .ok (.iconst 4, 1) := by decide +kernel
theorem dX9_write_194 : decode cX9_write 194 = .ok (.iadd, 1) := by decide +kernel
theorem dX9_write_195 : decode cX9_write 195 = .ok (.iaload, 1) := by decide +kernel
theorem dX9_write_196 : decode cX9_write 196 = .ok (.iload 6, 2) := by decide +kernel
theorem dX9_write_198 : decode cX9_write 198 = .ok (.isub, 1) := by decide +kernel
theorem dX9_write_199 : decode cX9_write 199 = .ok (.invokevirtual 111, 3) := by decide +kernel
theorem dX9_write_202 : decode cX9_write 202 = .ok (.aload_n 0, 1) := by decide +kernel
theorem dX9_write_203 : decode cX9_write 203 = .ok (.getfield 13, 3) := by decide +kernel
theorem dX9_write_206 : decode cX9_write 206 = .ok (.iload 10, 2) := by decide +kernel
theorem dX9_write_208 : decode cX9_write 208 = .ok (.iconst 2, 1) := by decide +kernel
theorem dX9_write_209 : decode cX9_write 209 = .ok (.iadd, 1) := by decide +kernel
theorem dX9_write_210 : decode cX9_write 210 = .ok (.iaload, 1) := by decide +kernel
theorem dX9_write_211 : decode cX9_write 211 = .ok (.istore 4, 2) := by decide +kernel
theorem dX9_write_213 : decode cX9_write 213 = .ok (.aload_n 0, 1) := by decide +kernel
theorem dX9_write_214 : decode cX9_write 214 = .ok (.getfield 13, 3) := by decide +kernel
theorem dX9_write_217 : decode cX9_write 217 = .ok (.iload 10, 2) := by decide +kernel
theorem dX9_write_219 : decode cX9_write 219 = .ok (.iconst 3, 1) := by decide +kernel
theorem dX9_write_220 : decode cX9_write 220 = .ok (.iadd, 1) := by decide +kernel
theorem dX9_write_221 : decode cX9_write 221 = .ok (.iaload, 1) := by decide +kernel
theorem dX9_write_222 : decode cX9_write 222 = .ok (.istore 5, 2) := by decide +kernel
theorem dX9_write_224 : decode cX9_write 224 = .ok (.aload_n 0, 1) := by decide +kernel
theorem dX9_write_225 : decode cX9_write 225 = .ok (.getfield 13, 3) := by decide +kernel
theorem dX9_write_228 : decode cX9_write 228 = .ok (.iload 10, 2) := by decide +kernel
theorem dX9_write_230 : decode cX9_write 230 = .ok (.iconst 4, 1) := by decide +kernel
theorem dX9_write_231 : decode cX9_write 231 = .ok (.iadd, 1) := by decide +kernel
theorem dX9_write_232 : decode cX9_write 232 = .ok (.iaload, 1) := by decide +kernel
theorem dX9_write_233 : decode cX9_write 233 = .ok (.istore 6, 2) := by decide +kernel
theorem dX9_write_235 : decode cX9_write 235 = .ok (.aload_n 0, 1) := by decide +kernel
theorem dX9_write_236 : decode cX9_write 236 = .ok (.getfield 13, 3) := by decide +kernel
theorem dX9_write_239 : decode cX9_write 239 = .ok (.iload 10, 2) := by decide +kernel
theorem dX9_write_241 : decode cX9_write 241 = .ok (.iconst 5, 1) := by decide +kernel
theorem dX9_write_242 : decode cX9_write 242 = .ok (.iadd, 1) := by decide +kernel
theorem dX9_write_243 : decode cX9_write 243 = .ok (.iaload, 1) := by decide +kernel
theorem dX9_write_244 : decode cX9_write 244 = .ok (.ifCond .ge 6, 3) := by decide +kernel
theorem dX9_write_247 : decode cX9_write 247 = .ok (.goto 30, 3) := by decide +kernel
theorem dX9_write_250 : decode cX9_write 250 = .ok (.aload_n 0, 1) := by decide +kernel
theorem dX9_write_251 : decode cX9_write 251 = .ok (.aload_n 0, 1) := by decide +kernel
theorem dX9_write_252 : decode cX9_write 252 = .ok (.getfield 13, 3) := by decide +kernel
theorem dX9_write_255 : decode cX9_write 255 = .ok (.iload 10, 2) := by decide +kernel
theorem dX9_write_257 : decode cX9_write 257 = .ok (.iconst 5, 1) := by decide +kernel
theorem dX9_write_258 : decode cX9_write 258 = .ok (.iadd, 1) := by decide +kernel
theorem dX9_write_259 : decode cX9_write 259 = .ok (.iaload, 1) := by decide +kernel
theorem dX9_write_260 : decode cX9_write 260 = .ok (.iload 7, 2) := by decide +kernel
theorem dX9_write_262 : decode cX9_write 262 = .ok (.isub, 1) := by decide +kernel
theorem dX9_write_263 : decode cX9_write 263 = .ok (.invokevirtual 111, 3) := by decide +kernel
theorem dX9_write_266 : decode cX9_write 266 = .ok (.aload_n 0, 1) := by decide +kernel
theorem dX9_write_267 : decode cX9_write 267 = .ok (.getfield 13, 3) := by decide +kernel
theorem dX9_write_270 : decode cX9_write 270 = .ok (.iload 10, 2) := by decide +kernel
theorem dX9_write_272 : decode cX9_write 272 = .ok (.iconst 5, 1) := by decide +kernel
theorem dX9_write_273 : decode cX9_write 273 = .ok (.iadd, 1) := by decide +kernel
theorem dX9_write_274 : decode cX9_write 274 = .ok (.iaload, 1) := by decide +kernel
theorem dX9_write_275 : decode cX9_write 275 = .ok (.istore 7, 2) := by decide +kernel
theorem dX9_write_277 : decode cX9_write 277 = .ok (.iinc 9 1, 3) := by decide +kernel
theorem dX9_write_280 : decode cX9_write 280 = .ok (.goto (-232), 3) := by decide +kernel
theorem dX9_write_283 : decode cX9_write 283 = .ok (.aload_n 0, 1) := by decide +kernel
theorem dX9_write_284 : decode cX9_write 284 = .ok (.getfield 55, 3) := by decide +kernel
theorem dX9_write_287 : decode cX9_write 287 = .ok (.ifCond .ne 5, 3) := by decide +kernel
theorem dX9_write_290 : decode cX9_write 290 = .ok (.iconst (-1), 1) := by decide +kernel
theorem dX9_write_291 : decode cX9_write 291 = .ok (.ireturn, 1) := by decide +kernel
theorem dX9_write_292 : decode cX9_write 292 = .ok (.aload_n 0, 1) := by decide +kernel
theorem dX9_write_293 : decode cX9_write 293 = .ok (.aload_n 0, 1) := by decide +kernel
theorem dX9_write_294 : decode cX9_write 294 = .ok (.getfield 62, 3) := by decide +kernel
theorem dX9_write_297 : decode cX9_write 297 = .ok (.putfield 36, 3) := by decide +kernel
theorem dX9_write_300 : decode cX9_write 300 = .ok (.iconst 0, 1) := by decide +kernel
theorem dX9_write_301 : decode cX9_write 301 = .ok (.istore 9, 2) := by decide +kernel
theorem dX9_write_303 : decode cX9_write 303 = .ok (.iload 9, 2) := by decide +kernel
theorem dX9_write_305 : decode cX9_write 305 = .ok (.aload_n 0, 1) := by decide +kernel
theorem dX9_write_306 : decode cX9_write 306 = .ok (.getfield 36, 3) := by decide +kernel
theorem dX9_write_309 : decode cX9_write 309 = .ok (.if_icmp .ge 23, 3) := by decide +kernel
theorem dX9_write_312 : decode cX9_write 312 = .ok (.aload_n 0, 1) := by decide +kernel
theorem dX9_write_313 : decode cX9_write 313 = .ok (.getfield 33, 3) := by decide +kernel
theorem dX9_write_316 : decode cX9_write 316 = .ok (.iload 9, 2) := by decide +kernel
theorem dX9_write_318 : decode cX9_write 318 = .ok (.aload_n 0, 1) := by decide +kernel
theorem dX9_write_319 : decode cX9_write 319 = .ok (.getfield 59, 3) := by decide +kernel
theorem dX9_write_322 : decode cX9_write 322 = .ok (.iload 9, 2) := by decide +kernel
theorem dX9_write_324 : decode cX9_write 324 = .ok (.baload, 1) := by decide +kernel
theorem dX9_write_325 : decode cX9_write 325 = .ok (.bastore, 1) := by decide +kernel
theorem dX9_write_326 : decode cX9_write 326 = .ok (.iinc 9 1, 3) := by decide +kernel
theorem dX9_write_329 : decode cX9_write 329 = .ok (.goto (-26), 3) := by decide +kernel
theorem dX9_write_332 : decode cX9_write 332 = .ok (.aload_n 0, 1) := by decide +kernel
theorem dX9_write_333 : decode cX9_write 333 = .ok (.getfield 36, 3) := by decide +kernel
theorem dX9_write_336 : decode cX9_write 336 = .ok (.ireturn, 1) := by decide +kernel
theorem dX9_textAt_0 : decode cX9_textAt 0 = .ok (.aload_n 0, 1) := by decide +kernel
theorem dX9_textAt_1 : decode cX9_textAt 1 = .ok (.iconst 0, 1) := by decide +kernel
theorem dX9_textAt_2 : decode cX9_textAt 2 = .ok (.putfield 7, 3) := by decide +kernel
theorem dX9_textAt_5 : decode cX9_textAt 5 = .ok (.iload_n 1, 1) := by decide +kernel
theorem dX9_textAt_6 : decode cX9_textAt 6 = .ok (.ifCond .lt 11, 3) := by decide +kernel
theorem dX9_textAt_9 : decode cX9_textAt 9 = .ok (.iload_n 1, 1) := by decide +kernel
theorem dX9_textAt_10 : decode cX9_textAt 10 = .ok (.aload_n 0, 1) := by decide +kernel
theorem dX9_textAt_11 : decode cX9_textAt 11 = .ok (.getfield 36, 3) := by decide +kernel
theorem dX9_textAt_14 : decode cX9_textAt 14 = .ok (.if_icmp .lt 10, 3) := by decide +kernel
theorem dX9_textAt_17 : decode cX9_textAt 17 = .ok (.aload_n 0, 1) := by decide +kernel
theorem dX9_textAt_18 : decode cX9_textAt 18 = .ok (.iconst 1, 1) := by decide +kernel
theorem dX9_textAt_19 : decode cX9_textAt 19 = .ok (.putfield 7, 3) := by decide +kernel
theorem dX9_textAt_22 : decode cX9_textAt 22 = .ok (.iconst 0, 1) := by decide +kernel
theorem dX9_textAt_23 : decode cX9_textAt 23 = .ok (.ireturn, 1) := by decide +kernel
theorem dX9_textAt_24 : decode cX9_textAt 24 = .ok (.aload_n 0, 1) := by decide +kernel
theorem dX9_textAt_25 : decode cX9_textAt 25 = .ok (.getfield 33, 3) := by decide +kernel
theorem dX9_textAt_28 : decode cX9_textAt 28 = .ok (.iload_n 1, 1) := by decide +kernel
theorem dX9_textAt_29 : decode cX9_textAt 29 = .ok (.baload, 1) := by decide +kernel
theorem dX9_textAt_30 : decode cX9_textAt 30 = .ok (.ireturn, 1) := by decide +kernel
theorem dX9_segmentOf_0 : decode cX9_segmentOf 0 = .ok (.iconst (-1), 1) := by decide +kernel
theorem dX9_segmentOf_1 : decode cX9_segmentOf 1 = .ok (.istore 4, 2) := by decide +kernel
theorem dX9_segmentOf_3 : decode cX9_segmentOf 3 = .ok (.iconst 0, 1) := by decide +kernel
theorem dX9_segmentOf_4 : decode cX9_segmentOf 4 = .ok (.istore 5, 2) := by decide +kernel
theorem dX9_segmentOf_6 : decode cX9_segmentOf 6 = .ok (.iload 5, 2) := by decide +kernel
theorem dX9_segmentOf_8 : decode cX9_segmentOf 8 = .ok (.aload_n 0, 1) := by decide +kernel
theorem dX9_segmentOf_9 : decode cX9_segmentOf 9 = .ok (.getfield 17, 3) := by decide +kernel
theorem dX9_segmentOf_12 : decode cX9_segmentOf 12 = .ok (.iload_n 1, 1) := by decide +kernel
theorem dX9_segmentOf_13 : decode cX9_segmentOf 13 = .ok (.iaload, 1) := by decide +kernel
theorem dX9_segmentOf_14 : decode cX9_segmentOf 14 = .ok (.if_icmp .ge 50, 3) := by decide +kernel
theorem dX9_segmentOf_17 : decode cX9_segmentOf 17 = .ok (.sipush 1800, 3) := by decide +kernel
theorem dX9_segmentOf_20 : decode cX9_segmentOf 20 = .ok (.iload_n 1, 1) := by decide +kernel
theorem dX9_segmentOf_21 : decode cX9_segmentOf 21 = .ok (.imul, 1) := by decide +kernel
theorem dX9_segmentOf_22 : decode cX9_segmentOf 22 = .ok (.bipush 6, 2) := by decide +kernel
theorem dX9_segmentOf_24 : decode cX9_segmentOf 24 = .ok (.iload 5, 2) := by decide +kernel
theorem dX9_segmentOf_26 : decode cX9_segmentOf 26 = .ok (.imul, 1) := by decide +kernel
theorem dX9_segmentOf_27 : decode cX9_segmentOf 27 = .ok (.iadd, 1) := by decide +kernel
theorem dX9_segmentOf_28 : decode cX9_segmentOf 28 = .ok (.istore 6, 2) := by decide +kernel
theorem dX9_segmentOf_30 : decode cX9_segmentOf 30 = .ok (.aload_n 0, 1) := by decide +kernel
theorem dX9_segmentOf_31 : decode cX9_segmentOf 31 = .ok (.getfield 13, 3) := by decide +kernel
theorem dX9_segmentOf_34 : decode cX9_segmentOf 34 = .ok (.iload 6, 2) := by decide +kernel
theorem dX9_segmentOf_36 : decode cX9_segmentOf 36 = .ok (.iaload, 1) := by decide +kernel
theorem dX9_segmentOf_37 : decode cX9_segmentOf 37 = .ok (.iload_n 2, 1) := by decide +kernel
theorem dX9_segmentOf_38 : decode cX9_segmentOf 38 = .ok (.if_icmp .ne 20, 3) := by decide +kernel
theorem dX9_segmentOf_41 : decode cX9_segmentOf 41 = .ok (.aload_n 0, 1) := by decide +kernel
theorem dX9_segmentOf_42 : decode cX9_segmentOf 42 = .ok (.getfield 13, 3) := by decide +kernel
theorem dX9_segmentOf_45 : decode cX9_segmentOf 45 = .ok (.iload 6, 2) := by decide +kernel
theorem dX9_segmentOf_47 : decode cX9_segmentOf 47 = .ok (.iconst 1, 1) := by decide +kernel
theorem dX9_segmentOf_48 : decode cX9_segmentOf 48 = .ok (.iadd, 1) := by decide +kernel
theorem dX9_segmentOf_49 : decode cX9_segmentOf 49 = .ok (.iaload, 1) := by decide +kernel
theorem dX9_segmentOf_50 : decode cX9_segmentOf 50 = .ok (.iload_n 3, 1) := by decide +kernel
theorem dX9_segmentOf_51 : decode cX9_segmentOf 51 = .ok (.if_icmp .gt 7, 3) := by decide +kernel
theorem dX9_segmentOf_54 : decode cX9_segmentOf 54 = .ok (.iload 5, 2) := by decide +kernel
theorem dX9_segmentOf_56 : decode cX9_segmentOf 56 = .ok (.istore 4, 2) := by decide +kernel
theorem dX9_segmentOf_58 : decode cX9_segmentOf 58 = .ok (.iinc 5 1, 3) := by decide +kernel
theorem dX9_segmentOf_61 : decode cX9_segmentOf 61 = .ok (.goto (-55), 3) := by decide +kernel
theorem dX9_segmentOf_64 : decode cX9_segmentOf 64 = .ok (.iload 4, 2) := by decide +kernel
theorem dX9_segmentOf_66 : decode cX9_segmentOf 66 = .ok (.ireturn, 1) := by decide +kernel
theorem dX9_ask_0 : decode cX9_ask 0 = .ok (.aload_n 0, 1) := by decide +kernel
theorem dX9_ask_1 : decode cX9_ask 1 = .ok (.iconst 0, 1) := by decide +kernel
theorem dX9_ask_2 : decode cX9_ask 2 = .ok (.putfield 7, 3) := by decide +kernel
theorem dX9_ask_5 : decode cX9_ask 5 = .ok (.iload_n 1, 1) := by decide +kernel
theorem dX9_ask_6 : decode cX9_ask 6 = .ok (.ifCond .lt 19, 3) := by decide +kernel
theorem dX9_ask_9 : decode cX9_ask 9 = .ok (.iload_n 1, 1) := by decide +kernel
theorem dX9_ask_10 : decode cX9_ask 10 = .ok (.iconst 1, 1) := by decide +kernel
theorem dX9_ask_11 : decode cX9_ask 11 = .ok (.if_icmp .gt 14, 3) := by decide +kernel
theorem dX9_ask_14 : decode cX9_ask 14 = .ok (.iload 4, 2) := by decide +kernel
theorem dX9_ask_16 : decode cX9_ask 16 = .ok (.ifCond .lt 9, 3) := by decide +kernel
theorem dX9_ask_19 : decode cX9_ask 19 = .ok (.iload 4, 2) := by decide +kernel
theorem dX9_ask_21 : decode cX9_ask 21 = .ok (.iconst 4, 1) := by decide +kernel
theorem dX9_ask_22 : decode cX9_ask 22 = .ok (.if_icmp .le 5, 3) := by decide +kernel
theorem dX9_ask_25 : decode cX9_ask 25 = .ok (.iconst (-1), 1) := by decide +kernel
theorem dX9_ask_26 : decode cX9_ask 26 = .ok (.ireturn, 1) := by decide +kernel
theorem dX9_ask_27 : decode cX9_ask 27 = .ok (.aload_n 0, 1) := by decide +kernel
theorem dX9_ask_28 : decode cX9_ask 28 = .ok (.iload_n 1, 1) := by decide +kernel
theorem dX9_ask_29 : decode cX9_ask 29 = .ok (.iload_n 2, 1) := by decide +kernel
theorem dX9_ask_30 : decode cX9_ask 30 = .ok (.iload_n 3, 1) := by decide +kernel
theorem dX9_ask_31 : decode cX9_ask 31 = .ok (.invokevirtual 114, 3) := by decide +kernel
theorem dX9_ask_34 : decode cX9_ask 34 = .ok (.istore 5, 2) := by decide +kernel
theorem dX9_ask_36 : decode cX9_ask 36 = .ok (.iload 5, 2) := by decide +kernel
theorem dX9_ask_38 : decode cX9_ask 38 = .ok (.ifCond .ge 5, 3) := by decide +kernel
theorem dX9_ask_41 : decode cX9_ask 41 = .ok (.iconst (-1), 1) := by decide +kernel
theorem dX9_ask_42 : decode cX9_ask 42 = .ok (.ireturn, 1) := by decide +kernel
theorem dX9_ask_43 : decode cX9_ask 43 = .ok (.sipush 1800, 3) := by decide +kernel
theorem dX9_ask_46 : decode cX9_ask 46 = .ok (.iload_n 1, 1) := by decide +kernel
theorem dX9_ask_47 : decode cX9_ask 47 = .ok (.imul, 1) := by decide +kernel
theorem dX9_ask_48 : decode cX9_ask 48 = .ok (.bipush 6, 2) := by decide +kernel
theorem dX9_ask_50 : decode cX9_ask 50 = .ok (.iload 5, 2) := by decide +kernel
theorem dX9_ask_52 : decode cX9_ask 52 = .ok (.imul, 1) := by decide +kernel
theorem dX9_ask_53 : decode cX9_ask 53 = .ok (.iadd, 1) := by decide +kernel
theorem dX9_ask_54 : decode cX9_ask 54 = .ok (.istore 6, 2) := by decide +kernel
theorem dX9_ask_56 : decode cX9_ask 56 = .ok (.aload_n 0, 1) := by decide +kernel
theorem dX9_ask_57 : decode cX9_ask 57 = .ok (.getfield 13, 3) := by decide +kernel
theorem dX9_ask_60 : decode cX9_ask 60 = .ok (.iload 6, 2) := by decide +kernel
theorem dX9_ask_62 : decode cX9_ask 62 = .ok (.iconst 2, 1) := by decide +kernel
theorem dX9_ask_63 : decode cX9_ask 63 = .ok (.iadd, 1) := by decide +kernel
theorem dX9_ask_64 : decode cX9_ask 64 = .ok (.iaload, 1) := by decide +kernel
theorem dX9_ask_65 : decode cX9_ask 65 = .ok (.ifCond .ge 5, 3) := by decide +kernel
theorem dX9_ask_68 : decode cX9_ask 68 = .ok (.iconst (-1), 1) := by decide +kernel
theorem dX9_ask_69 : decode cX9_ask 69 = .ok (.ireturn, 1) := by decide +kernel
theorem dX9_ask_70 : decode cX9_ask 70 = .ok (.iload 4, 2) := by decide +kernel
theorem dX9_ask_72 : decode cX9_ask 72 = .ok (.iconst 4, 1) := by decide +kernel
theorem dX9_ask_73 : decode cX9_ask 73 = .ok (.if_icmp .ne 8, 3) := by decide +kernel
theorem dX9_ask_76 : decode cX9_ask 76 = .ok (.iload 5, 2) := by decide +kernel
theorem dX9_ask_78 : decode cX9_ask 78 = .ok (.goto 15, 3) := by decide +kernel
theorem dX9_ask_81 : decode cX9_ask 81 = .ok (.aload_n 0, 1) := by decide +kernel
theorem dX9_ask_82 : decode cX9_ask 82 = .ok (.getfield 13, 3) := by decide +kernel
theorem dX9_ask_85 : decode cX9_ask 85 = .ok (.iload 6, 2) := by decide +kernel
theorem dX9_ask_87 : decode cX9_ask 87 = .ok (.iconst 2, 1) := by decide +kernel
theorem dX9_ask_88 : decode cX9_ask 88 = .ok (.iadd, 1) := by decide +kernel
theorem dX9_ask_89 : decode cX9_ask 89 = .ok (.iload 4, 2) := by decide +kernel
theorem dX9_ask_91 : decode cX9_ask 91 = .ok (.iadd, 1) := by decide +kernel
theorem dX9_ask_92 : decode cX9_ask 92 = .ok (.iaload, 1) := by decide +kernel
theorem dX9_ask_93 : decode cX9_ask 93 = .ok (.ireturn, 1) := by decide +kernel
theorem dX9_compose_0 : decode cX9_compose 0 = .ok (.aload_n 0, 1) := by decide +kernel
theorem dX9_compose_1 : decode cX9_compose 1 = .ok (.iconst 0, 1) := by decide +kernel
theorem dX9_compose_2 : decode cX9_compose 2 = .ok (.putfield 7, 3) := by decide +kernel
theorem dX9_compose_5 : decode cX9_compose 5 = .ok (.iconst 0, 1) := by decide +kernel
theorem dX9_compose_6 : decode cX9_compose 6 = .ok (.istore_n 1, 1) := by decide +kernel
theorem dX9_compose_7 : decode cX9_compose 7 = .ok (.iconst 0, 1) := by decide +kernel
theorem dX9_compose_8 : decode cX9_compose 8 = .ok (.istore_n 2, 1) := by decide +kernel
theorem dX9_compose_9 : decode cX9_compose 9 = .ok (.iload_n 2, 1) := by decide +kernel
theorem dX9_compose_10 : decode cX9_compose 10 = .ok (.aload_n 0, 1) := by decide +kernel
theorem dX9_compose_11 : decode cX9_compose 11 = .ok (.getfield 17, 3) := by decide +kernel
theorem dX9_compose_14 : decode cX9_compose 14 = .ok (.iconst 0, 1) := by decide +kernel
theorem dX9_compose_15 : decode cX9_compose 15 = .ok (.iaload, 1) := by decide +kernel
theorem dX9_compose_16 : decode cX9_compose 16 = .ok (.if_icmp .ge 200, 3) := by decide +kernel
theorem dX9_compose_19 : decode cX9_compose 19 = .ok (.bipush 6, 2) := by decide +kernel
theorem dX9_compose_21 : decode cX9_compose 21 = .ok (.iload_n 2, 1) := by decide +kernel
theorem dX9_compose_22 : decode cX9_compose 22 = .ok (.imul, 1) := by decide +kernel
theorem dX9_compose_23 : decode cX9_compose 23 = .ok (.istore_n 3, 1) := by decide +kernel
theorem dX9_compose_24 : decode cX9_compose 24 = .ok (.aload_n 0, 1) := by decide +kernel
theorem dX9_compose_25 : decode cX9_compose 25 = .ok (.getfield 13, 3) := by decide +kernel
theorem dX9_compose_28 : decode cX9_compose 28 = .ok (.iload_n 3, 1) := by decide +kernel
theorem dX9_compose_29 : decode cX9_compose 29 = .ok (.iconst 2, 1) := by decide +kernel
theorem dX9_compose_30 : decode cX9_compose 30 = .ok (.iadd, 1) := by decide +kernel
theorem dX9_compose_31 : decode cX9_compose 31 = .ok (.iaload, 1) := by decide +kernel
theorem dX9_compose_32 : decode cX9_compose 32 = .ok (.ifCond .ge 6, 3) := by decide +kernel
theorem dX9_compose_35 : decode cX9_compose 35 = .ok (.goto 175, 3) := by decide +kernel
theorem dX9_compose_38 : decode cX9_compose 38 = .ok (.aload_n 0, 1) := by decide +kernel
theorem dX9_compose_39 : decode cX9_compose 39 = .ok (.iconst 1, 1) := by decide +kernel
theorem dX9_compose_40 : decode cX9_compose 40 = .ok (.aload_n 0, 1) := by decide +kernel
theorem dX9_compose_41 : decode cX9_compose 41 = .ok (.getfield 13, 3) := by decide +kernel
theorem dX9_compose_44 : decode cX9_compose 44 = .ok (.iload_n 3, 1) := by decide +kernel
theorem dX9_compose_45 : decode cX9_compose 45 = .ok (.iconst 3, 1) := by decide +kernel
theorem dX9_compose_46 : decode cX9_compose 46 = .ok (.iadd, 1) := by decide +kernel
theorem dX9_compose_47 : decode cX9_compose 47 = .ok (.iaload, 1) := by decide +kernel
theorem dX9_compose_48 : decode cX9_compose 48 = .ok (.aload_n 0, 1) := by decide +kernel
theorem dX9_compose_49 : decode cX9_compose 49 = .ok (.getfield 13, 3) := by decide +kernel
theorem dX9_compose_52 : decode cX9_compose 52 = .ok (.iload_n 3, 1) := by decide +kernel
theorem dX9_compose_53 : decode cX9_compose 53 = .ok (.iconst 4, 1) := by decide +kernel
theorem dX9_compose_54 : decode cX9_compose 54 = .ok (.iadd, 1) := by decide +kernel
theorem dX9_compose_55 : decode cX9_compose 55 = .ok (.iaload, 1) := by decide +kernel
theorem dX9_compose_56 : decode cX9_compose 56 = .ok (.invokevirtual 114, 3) := by decide +kernel
theorem dX9_compose_59 : decode cX9_compose 59 = .ok (.istore 4, 2) := by decide +kernel
theorem dX9_compose_61 : decode cX9_compose 61 = .ok (.sipush 1800, 3) := by decide +kernel
theorem dX9_compose_64 : decode cX9_compose 64 = .ok (.bipush 6, 2) := by decide +kernel
theorem dX9_compose_66 : decode cX9_compose 66 = .ok (.iload 4, 2) := by decide +kernel
theorem dX9_compose_68 : decode cX9_compose 68 = .ok (.imul, 1) := by decide +kernel
theorem dX9_compose_69 : decode cX9_compose 69 = .ok (.iadd, 1) := by decide +kernel
theorem dX9_compose_70 : decode cX9_compose 70 = .ok (.istore 5, 2) := by decide +kernel
theorem dX9_compose_72 : decode cX9_compose 72 = .ok (.iload 4, 2) := by decide +kernel
theorem dX9_compose_74 : decode cX9_compose 74 = .ok (.ifCond .lt 15, 3) := by decide +kernel
theorem dX9_compose_77 : decode cX9_compose 77 = .ok (.aload_n 0, 1) := by decide +kernel
theorem dX9_compose_78 : decode cX9_compose 78 = .ok (.getfield 13, 3) := by decide +kernel
theorem dX9_compose_81 : decode cX9_compose 81 = .ok (.iload 5, 2) := by decide +kernel
theorem dX9_compose_83 : decode cX9_compose 83 = .ok (.iconst 2, 1) := by decide +kernel
theorem dX9_compose_84 : decode cX9_compose 84 = .ok (.iadd, 1) := by decide +kernel
theorem dX9_compose_85 : decode cX9_compose 85 = .ok (.iaload, 1) := by decide +kernel
theorem dX9_compose_86 : decode cX9_compose 86 = .ok (.ifCond .ge 42, 3) := by decide +kernel
theorem dX9_compose_89 : decode cX9_compose 89 = .ok (.aload_n 0, 1) := by decide +kernel
theorem dX9_compose_90 : decode cX9_compose 90 = .ok (.getfield 13, 3) := by decide +kernel
theorem dX9_compose_93 : decode cX9_compose 93 = .ok (.iload_n 3, 1) := by decide +kernel
theorem dX9_compose_94 : decode cX9_compose 94 = .ok (.iconst 2, 1) := by decide +kernel
theorem dX9_compose_95 : decode cX9_compose 95 = .ok (.iadd, 1) := by decide +kernel
theorem dX9_compose_96 : decode cX9_compose 96 = .ok (.iconst (-1), 1) := by decide +kernel
theorem dX9_compose_97 : decode cX9_compose 97 = .ok (.iastore, 1) := by decide +kernel
theorem dX9_compose_98 : decode cX9_compose 98 = .ok (.aload_n 0, 1) := by decide +kernel
theorem dX9_compose_99 : decode cX9_compose 99 = .ok (.getfield 13, 3) := by decide +kernel
theorem dX9_compose_102 : decode cX9_compose 102 = .ok (.iload_n 3, 1) := by decide +kernel
theorem dX9_compose_103 : decode cX9_compose 103 = .ok (.iconst 3, 1) := by decide +kernel
theorem dX9_compose_104 : decode cX9_compose 104 = .ok (.iadd, 1) := by decide +kernel
theorem dX9_compose_105 : decode cX9_compose 105 = .ok (.iconst 0, 1) := by decide +kernel
theorem dX9_compose_106 : decode cX9_compose 106 = .ok (.iastore, 1) := by decide +kernel
theorem dX9_compose_107 : decode cX9_compose 107 = .ok (.aload_n 0, 1) := by decide +kernel
theorem dX9_compose_108 : decode cX9_compose 108 = .ok (.getfield 13, 3) := by decide +kernel
theorem dX9_compose_111 : decode cX9_compose 111 = .ok (.iload_n 3, 1) := by decide +kernel
theorem dX9_compose_112 : decode cX9_compose 112 = .ok (.iconst 4, 1) := by decide +kernel
theorem dX9_compose_113 : decode cX9_compose 113 = .ok (.iadd, 1) := by decide +kernel
theorem dX9_compose_114 : decode cX9_compose 114 = .ok (.iconst 0, 1) := by decide +kernel
theorem dX9_compose_115 : decode cX9_compose 115 = .ok (.iastore, 1) := by decide +kernel
theorem dX9_compose_116 : decode cX9_compose 116 = .ok (.aload_n 0, 1) := by decide +kernel
theorem dX9_compose_117 : decode cX9_compose 117 = .ok (.getfield 13, 3) := by decide +kernel
theorem dX9_compose_120 : decode cX9_compose 120 = .ok (.iload_n 3, 1) := by decide +kernel
theorem dX9_compose_121 : decode cX9_compose 121 = .ok (.iconst 5, 1) := by decide +kernel
theorem dX9_compose_122 : decode cX9_compose 122 = .ok (.iadd, 1) := by decide +kernel
theorem dX9_compose_123 : decode cX9_compose 123 = .ok (.iconst (-1), 1) := by decide +kernel
theorem dX9_compose_124 : decode cX9_compose 124 = .ok (.iastore, 1) := by decide +kernel
theorem dX9_compose_125 : decode cX9_compose 125 = .ok (.goto 85, 3) := by decide +kernel
theorem dX9_compose_128 : decode cX9_compose 128 = .ok (.aload_n 0, 1) := by decide +kernel
theorem dX9_compose_129 : decode cX9_compose 129 = .ok (.getfield 13, 3) := by decide +kernel
theorem dX9_compose_132 : decode cX9_compose 132 = .ok (.iload_n 3, 1) := by decide +kernel
theorem dX9_compose_133 : decode cX9_compose 133 = .ok (.iconst 2, 1) := by decide +kernel
theorem dX9_compose_134 : decode cX9_compose 134 = .ok (.iadd, 1) := by decide +kernel
theorem dX9_compose_135 : decode cX9_compose 135 = .ok (.aload_n 0, 1) := by decide +kernel
theorem dX9_compose_136 : decode cX9_compose 136 = .ok (.getfield 13, 3) := by decide +kernel
theorem dX9_compose_139 : decode cX9_compose 139 = .ok (.iload 5, 2) := by decide +kernel
theorem dX9_compose_141 : decode cX9_compose 141 = .ok (.iconst 2, 1) := by decide +kernel
theorem dX9_compose_142 : decode cX9_compose 142 = .ok (.iadd, 1) := by decide +kernel
theorem dX9_compose_143 : decode cX9_compose 143 = .ok (.iaload, 1) := by decide +kernel
theorem dX9_compose_144 : decode cX9_compose 144 = .ok (.iastore, 1) := by decide +kernel
theorem dX9_compose_145 : decode cX9_compose 145 = .ok (.aload_n 0, 1) := by decide +kernel
theorem dX9_compose_146 : decode cX9_compose 146 = .ok (.getfield 13, 3) := by decide +kernel
theorem dX9_compose_149 : decode cX9_compose 149 = .ok (.iload_n 3, 1) := by decide +kernel
theorem dX9_compose_150 : decode cX9_compose 150 = .ok (.iconst 3, 1) := by decide +kernel
theorem dX9_compose_151 : decode cX9_compose 151 = .ok (.iadd, 1) := by decide +kernel
theorem dX9_compose_152 : decode cX9_compose 152 = .ok (.aload_n 0, 1) := by decide +kernel
theorem dX9_compose_153 : decode cX9_compose 153 = .ok (.getfield 13, 3) := by decide +kernel
theorem dX9_compose_156 : decode cX9_compose 156 = .ok (.iload 5, 2) := by decide +kernel
theorem dX9_compose_158 : decode cX9_compose 158 = .ok (.iconst 3, 1) := by decide +kernel
theorem dX9_compose_159 : decode cX9_compose 159 = .ok (.iadd, 1) := by decide +kernel
theorem dX9_compose_160 : decode cX9_compose 160 = .ok (.iaload, 1) := by decide +kernel
theorem dX9_compose_161 : decode cX9_compose 161 = .ok (.iastore, 1) := by decide +kernel
theorem dX9_compose_162 : decode cX9_compose 162 = .ok (.aload_n 0, 1) := by decide +kernel
theorem dX9_compose_163 : decode cX9_compose 163 = .ok (.getfield 13, 3) := by decide +kernel
theorem dX9_compose_166 : decode cX9_compose 166 = .ok (.iload_n 3, 1) := by decide +kernel
theorem dX9_compose_167 : decode cX9_compose 167 = .ok (.iconst 4, 1) := by decide +kernel
theorem dX9_compose_168 : decode cX9_compose 168 = .ok (.iadd, 1) := by decide +kernel
theorem dX9_compose_169 : decode cX9_compose 169 = .ok (.aload_n 0, 1) := by decide +kernel
theorem dX9_compose_170 : decode cX9_compose 170 = .ok (.getfield 13, 3) := by decide +kernel
theorem dX9_compose_173 : decode cX9_compose 173 = .ok (.iload 5, 2) := by decide +kernel
theorem dX9_compose_175 : decode cX9_compose 175 = .ok (.iconst 4, 1) := by decide +kernel
theorem dX9_compose_176 : decode cX9_compose 176 = .ok (.iadd, 1) := by decide +kernel
theorem dX9_compose_177 : decode cX9_compose 177 = .ok (.iaload, 1) := by decide +kernel
theorem dX9_compose_178 : decode cX9_compose 178 = .ok (.iastore, 1) := by decide +kernel
theorem dX9_compose_179 : decode cX9_compose 179 = .ok (.aload_n 0, 1) := by decide +kernel
theorem dX9_compose_180 : decode cX9_compose 180 = .ok (.getfield 13, 3) := by decide +kernel
theorem dX9_compose_183 : decode cX9_compose 183 = .ok (.iload_n 3, 1) := by decide +kernel
theorem dX9_compose_184 : decode cX9_compose 184 = .ok (.iconst 5, 1) := by decide +kernel
theorem dX9_compose_185 : decode cX9_compose 185 = .ok (.iadd, 1) := by decide +kernel
theorem dX9_compose_186 : decode cX9_compose 186 = .ok (.iaload, 1) := by decide +kernel
theorem dX9_compose_187 : decode cX9_compose 187 = .ok (.ifCond .ge 20, 3) := by decide +kernel
theorem dX9_compose_190 : decode cX9_compose 190 = .ok (.aload_n 0, 1) := by decide +kernel
theorem dX9_compose_191 : decode cX9_compose 191 = .ok (.getfield 13, 3) := by decide +kernel
theorem dX9_compose_194 : decode cX9_compose 194 = .ok (.iload_n 3, 1) := by decide +kernel
theorem dX9_compose_195 : decode cX9_compose 195 = .ok (.iconst 5, 1) := by decide +kernel
theorem dX9_compose_196 : decode cX9_compose 196 = .ok (.iadd, 1) := by decide +kernel
theorem dX9_compose_197 : decode cX9_compose 197 = .ok (.aload_n 0, 1) := by decide +kernel
theorem dX9_compose_198 : decode cX9_compose 198 = .ok (.getfield 13, 3) := by decide +kernel
theorem dX9_compose_201 : decode cX9_compose 201 = .ok (.iload 5, 2) := by decide +kernel
theorem dX9_compose_203 : decode cX9_compose 203 = .ok (.iconst 5, 1) := by decide +kernel
theorem dX9_compose_204 : decode cX9_compose 204 = .ok (.iadd, 1) := by decide +kernel
theorem dX9_compose_205 : decode cX9_compose 205 = .ok (.iaload, 1) := by decide +kernel
theorem dX9_compose_206 : decode cX9_compose 206 = .ok (.iastore, 1) := by decide +kernel
theorem dX9_compose_207 : decode cX9_compose 207 = .ok (.iinc 1 1, 3) := by decide +kernel
theorem dX9_compose_210 : decode cX9_compose 210 = .ok (.iinc 2 1, 3) := by decide +kernel
theorem dX9_compose_213 : decode cX9_compose 213 = .ok (.goto (-204), 3) := by decide +kernel
theorem dX9_compose_216 : decode cX9_compose 216 = .ok (.iload_n 1, 1) := by decide +kernel
theorem dX9_compose_217 : decode cX9_compose 217 = .ok (.ireturn, 1) := by decide +kernel
theorem dX9_size_0 : decode cX9_size 0 = .ok (.aload_n 0, 1) := by decide +kernel
theorem dX9_size_1 : decode cX9_size 1 = .ok (.iconst 0, 1) := by decide +kernel
theorem dX9_size_2 : decode cX9_size 2 = .ok (.putfield 7, 3) := by decide +kernel
theorem dX9_size_5 : decode cX9_size 5 = .ok (.iload_n 1, 1) := by decide +kernel
theorem dX9_size_6 : decode cX9_size 6 = .ok (.ifCond .lt 8, 3) := by decide +kernel
theorem dX9_size_9 : decode cX9_size 9 = .ok (.iload_n 1, 1) := by decide +kernel
theorem dX9_size_10 : decode cX9_size 10 = .ok (.iconst 1, 1) := by decide +kernel
theorem dX9_size_11 : decode cX9_size 11 = .ok (.if_icmp .le 7, 3) := by decide +kernel
theorem dX9_size_14 : decode cX9_size 14 = .ok (.iconst (-1), 1) := by decide +kernel
theorem dX9_size_15 : decode cX9_size 15 = .ok (.goto 9, 3) := by decide +kernel
theorem dX9_size_18 : decode cX9_size 18 = .ok (.aload_n 0, 1) := by decide +kernel
theorem dX9_size_19 : decode cX9_size 19 = .ok (.getfield 17, 3) := by decide +kernel
theorem dX9_size_22 : decode cX9_size 22 = .ok (.iload_n 1, 1) := by decide +kernel
theorem dX9_size_23 : decode cX9_size 23 = .ok (.iaload, 1) := by decide +kernel
theorem dX9_size_24 : decode cX9_size 24 = .ok (.ireturn, 1) := by decide +kernel
theorem dX9_clear_0 : decode cX9_clear 0 = .ok (.aload_n 0, 1) := by decide +kernel
theorem dX9_clear_1 : decode cX9_clear 1 = .ok (.iconst 0, 1) := by decide +kernel
theorem dX9_clear_2 : decode cX9_clear 2 = .ok (.putfield 7, 3) := by decide +kernel
theorem dX9_clear_5 : decode cX9_clear 5 = .ok (.iload_n 1, 1) := by decide +kernel
theorem dX9_clear_6 : decode cX9_clear 6 = .ok (.ifCond .lt 8, 3) := by decide +kernel
theorem dX9_clear_9 : decode cX9_clear 9 = .ok (.iload_n 1, 1) := by decide +kernel
theorem dX9_clear_10 : decode cX9_clear 10 = .ok (.iconst 1, 1) := by decide +kernel
theorem dX9_clear_11 : decode cX9_clear 11 = .ok (.if_icmp .le 5, 3) := by decide +kernel
theorem dX9_clear_14 : decode cX9_clear 14 = .ok (.iconst 0, 1) := by decide +kernel
theorem dX9_clear_15 : decode cX9_clear 15 = .ok (.ireturn, 1) := by decide +kernel
theorem dX9_clear_16 : decode cX9_clear 16 = .ok (.aload_n 0, 1) := by decide +kernel
theorem dX9_clear_17 : decode cX9_clear 17 = .ok (.getfield 17, 3) := by decide +kernel
theorem dX9_clear_20 : decode cX9_clear 20 = .ok (.iload_n 1, 1) := by decide +kernel
theorem dX9_clear_21 : decode cX9_clear 21 = .ok (.iconst 0, 1) := by decide +kernel
theorem dX9_clear_22 : decode cX9_clear 22 = .ok (.iastore, 1) := by decide +kernel
theorem dX9_clear_23 : decode cX9_clear 23 = .ok (.iconst 1, 1) := by decide +kernel
theorem dX9_clear_24 : decode cX9_clear 24 = .ok (.ireturn, 1) := by decide +kernel
