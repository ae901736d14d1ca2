theorem dX0_init_0 : decode cX0_init 0 = .ok (.aload_n 0, 1) := by decide +kernel
theorem dX0_init_1 : decode cX0_init 1 = .ok (.invokespecial 3, 3) := by decide +kernel
theorem dX0_init_4 : decode cX0_init 4 = .ok (.aload_n 0, 1) := by decide +kernel
theorem dX0_init_5 : decode cX0_init 5 = .ok (.bipush 20, 2) := by decide +kernel
theorem dX0_init_7 : decode cX0_init 7 = .ok (.newarray .int, 2) := by decide +kernel
theorem dX0_init_9 : decode cX0_init 9 = .ok (.putfield 9, 3) := by decide +kernel
theorem dX0_init_12 : decode cX0_init 12 = .ok (.aload_n 0, 1) := by decide +kernel
theorem dX0_init_13 : decode cX0_init 13 = .ok (.bipush 20, 2) := by decide +kernel
theorem dX0_init_15 : decode cX0_init 15 = .ok (.newarray .int, 2) := by decide +kernel
theorem dX0_init_17 : decode cX0_init 17 = .ok (.putfield 15, 3) := by decide +kernel
theorem dX0_init_20 : decode cX0_init 20 = .ok (.aload_n 0, 1) := by decide +kernel
theorem dX0_init_21 : decode cX0_init 21 = .ok (.bipush 20, 2) := by decide +kernel
theorem dX0_init_23 : decode cX0_init 23 = .ok (.newarray .int, 2) := by decide +kernel
theorem dX0_init_25 : decode cX0_init 25 = .ok (.putfield 18, 3) := by decide +kernel
theorem dX0_init_28 : decode cX0_init 28 = .ok (.aload_n 0, 1) := by decide +kernel
theorem dX0_init_29 : decode cX0_init 29 = .ok (.iconst 0, 1) := by decide +kernel
theorem dX0_init_30 : decode cX0_init 30 = .ok (.putfield 21, 3) := by decide +kernel
theorem dX0_init_33 : decode cX0_init 33 = .ok (.return_, 1) := by decide +kernel
theorem dX0_tells_0 : decode cX0_tells 0 = .ok (.iload_n 0, 1) := by decide +kernel
theorem dX0_tells_1 : decode cX0_tells 1 = .ok (.ifCond .lt 8, 3) := by decide +kernel
theorem dX0_tells_4 : decode cX0_tells 4 = .ok (.iload_n 0, 1) := by decide +kernel
theorem dX0_tells_5 : decode cX0_tells 5 = .ok (.iconst 3, 1) := by decide +kernel
theorem dX0_tells_6 : decode cX0_tells 6 = .ok (.if_icmp .le 15, 3) := by decide +kernel
theorem dX0_tells_9 : decode cX0_tells 9 = .ok (.iload_n 0, 1) := by decide +kernel
theorem dX0_tells_10 : decode cX0_tells 10 = .ok (.bipush 10, 2) := by decide +kernel
theorem dX0_tells_12 : decode cX0_tells 12 = .ok (.if_icmp .lt 13, 3) := by decide +kernel
theorem dX0_tells_15 : decode cX0_tells 15 = .ok (.iload_n 0, 1) := by decide +kernel
theorem dX0_tells_16 : decode cX0_tells 16 = .ok (.bipush 14, 2) := by decide +kernel
theorem dX0_tells_18 : decode cX0_tells 18 = .ok (.if_icmp .gt 7, 3) := by decide +kernel
theorem dX0_tells_21 : decode cX0_tells 21 = .ok (.iconst 1, 1) := by decide +kernel
theorem dX0_tells_22 : decode cX0_tells 22 = .ok (.goto 4, 3) := by decide +kernel
theorem dX0_tells_25 : decode cX0_tells 25 = .ok (.iconst 0, 1) := by decide +kernel
theorem dX0_tells_26 : decode cX0_tells 26 = .ok (.ireturn, 1) := by decide +kernel
theorem dX0_readPairs_0 : decode cX0_readPairs 0 = .ok (.aload_n 0, 1) := by decide +kernel
theorem dX0_readPairs_1 : decode cX0_readPairs 1 = .ok (.iconst 0, 1) := by decide +kernel
theorem dX0_readPairs_2 : decode cX0_readPairs 2 = .ok (.putfield 21, 3) := by decide +kernel
theorem dX0_readPairs_5 : decode cX0_readPairs 5 = .ok (.iconst 0, 1) := by decide +kernel
theorem dX0_readPairs_6 : decode cX0_readPairs 6 = .ok (.istore 5, 2) := by decide +kernel
theorem dX0_readPairs_8 : decode cX0_readPairs 8 = .ok (.iload 5, 2) := by decide +kernel
theorem dX0_readPairs_10 : decode cX0_readPairs 10 = .ok (.iload 4, 2) := by decide +kernel
theorem dX0_readPairs_12 : decode cX0_readPairs 12 = .ok (.if_icmp .ge 107, 3) := by decide +kernel
theorem dX0_readPairs_15 : decode cX0_readPairs 15 = .ok (.aload_n 2, 1) := by decide +kernel
theorem dX0_readPairs_16 : decode cX0_readPairs 16 = .ok (.getfield 25, 3) := by decide +kernel
theorem dX0_readPairs_19 : decode cX0_readPairs 19 = .ok (.iload_n 3, 1) := by decide +kernel
theorem dX0_readPairs_20 : decode cX0_readPairs 20 = .ok (.iconst 2, 1) := by decide +kernel
theorem dX0_readPairs_21 : decode cX0_readPairs 21 = .ok (.iload 5, 2) := by decide +kernel
theorem dX0_readPairs_23 : decode cX0_readPairs 23 = .ok (.imul, 1) := by decide +kernel
theorem dX0_readPairs_24 : decode cX0_readPairs 24 = .ok (.iadd, 1) := by decide +kernel
theorem dX0_readPairs_25 : decode cX0_readPairs 25 = .ok (.iaload, 1) := by decide +kernel
theorem dX0_readPairs_26 : decode cX0_readPairs 26 = .ok (.istore 6, 2) := by decide +kernel
theorem dX0_readPairs_28 : decode cX0_readPairs 28 = .ok (.aload_n 2, 1) := by decide +kernel
theorem dX0_readPairs_29 : decode cX0_readPairs 29 = .ok (.getfield 25, 3) := by decide +kernel
theorem dX0_readPairs_32 : decode cX0_readPairs 32 = .ok (.iload_n 3, 1) := by decide +kernel
theorem dX0_readPairs_33 : decode cX0_readPairs 33 = .ok (.iconst 2, 1) := by decide +kernel
theorem dX0_readPairs_34 : decode cX0_readPairs 34 = .ok (.iload 5, 2) := by decide +kernel
theorem dX0_readPairs_36 : decode cX0_readPairs 36 = .ok (.imul, 1) := by decide +kernel
theorem dX0_readPairs_37 : decode cX0_readPairs 37 = .ok (.iadd, 1) := by decide +kernel
theorem dX0_readPairs_38 : decode cX0_readPairs 38 = .ok (.iconst 1, 1) := by decide +kernel
theorem dX0_readPairs_39 : decode cX0_readPairs 39 = .ok (.iadd, 1) := by decide +kernel
theorem dX0_readPairs_40 : decode cX0_readPairs 40 = .ok (.iaload, 1) := by decide +kernel
theorem dX0_readPairs_41 : decode cX0_readPairs 41 = .ok (.istore 7, 2) := by decide +kernel
theorem dX0_readPairs_43 : decode cX0_readPairs 43 = .ok (.aload_n 1, 1) := by decide +kernel
theorem dX0_readPairs_44 : decode cX0_readPairs 44 = .ok (.iload 6, 2) := by decide +kernel
theorem dX0_readPairs_46 : decode cX0_readPairs 46 = .ok (.invokevirtual 30, 3) := by decide +kernel
theorem dX0_readPairs_49 : decode cX0_readPairs 49 = .ok (.astore 8, 2) := by decide +kernel
theorem dX0_readPairs_51 : decode cX0_readPairs 51 = .ok (.aload 8, 2) := by decide +kernel
theorem dX0_readPairs_53 : decode cX0_readPairs 53 = .ok (.ifnonnull 5, 3) := by decide +kernel
theorem dX0_readPairs_56 : decode cX0_readPairs 56 = .ok (.iconst (-1), 1) := by decide +kernel
theorem dX0_readPairs_57 : decode cX0_readPairs 57 = .ok (.ireturn, 1) := by decide +kernel
theorem dX0_readPairs_58 : decode cX0_readPairs 58 = .ok (.iload 7, 2) := by decide +kernel
theorem dX0_readPairs_60 : decode cX0_readPairs 60 = .ok (.invokestatic 36, 3) := by decide +kernel
theorem dX0_readPairs_63 : decode cX0_readPairs 63 = .ok (.ifCond .ne 6, 3) := by decide +kernel
theorem dX0_readPairs_66 : decode cX0_readPairs 66 = .ok (.bipush (-2), 2) := by decide +kernel
theorem dX0_readPairs_68 : decode cX0_readPairs 68 = .ok (.ireturn, 1) := by decide +kernel
theorem dX0_readPairs_69 : decode cX0_readPairs 69 = .ok (.aload_n 0, 1) := by decide +kernel
theorem dX0_readPairs_70 : decode cX0_readPairs 70 = .ok (.getfield 9, 3) := by decide +kernel
theorem dX0_readPairs_73 : decode cX0_readPairs 73 = .ok (.iload 5, 2) := by decide +kernel
theorem dX0_readPairs_75 : decode cX0_readPairs 75 = .ok (.iload 6, 2) := by decide +kernel
theorem dX0_readPairs_77 : decode cX0_readPairs 77 = .ok (.iastore, 1) := by decide +kernel
theorem dX0_readPairs_78 : decode cX0_readPairs 78 = .ok (.aload_n 0, 1) := by decide +kernel
theorem dX0_readPairs_79 : decode cX0_readPairs 79 = .ok (.getfield 15, 3) := by decide +kernel
theorem dX0_readPairs_82 : decode cX0_readPairs 82 = .ok (.iload 5, 2) := by decide +kernel
theorem dX0_readPairs_84 : decode cX0_readPairs 84 = .ok (.iload 7, 2) := by decide +kernel
theorem dX0_readPairs_86 : decode cX0_readPairs 86 = .ok (.iastore, 1) := by decide +kernel
theorem dX0_readPairs_87 : decode cX0_readPairs 87 = .ok (.aload_n 0, 1) := by decide +kernel
theorem dX0_readPairs_88 : decode cX0_readPairs 88 = .ok (.getfield 18, 3) := by decide +kernel
theorem dX0_readPairs_91 : decode cX0_readPairs 91 = .ok (.iload 5, 2) := by decide +kernel
theorem dX0_readPairs_93 : decode cX0_readPairs 93 = .ok (.iload 7, 2) := by decide +kernel
theorem dX0_readPairs_95 : decode cX0_readPairs 95 = .ok (.aload_n 1, 1) := by decide +kernel
theorem dX0_readPairs_96 : decode cX0_readPairs 96 = .ok (.aload 8, 2) := by decide +kernel
theorem dX0_readPairs_98 : decode cX0_readPairs 98 = .ok (.iload 7, 2) := by decide +kernel
theorem dX0_readPairs_100 : decode cX0_readPairs 100 = .ok (.invokevirtual 40, 3) := by decide +kernel
theorem dX0_readPairs_103 : decode cX0_readPairs 103 = .ok (.iadd, 1) := by decide +kernel
theorem dX0_readPairs_104 : decode cX0_readPairs 104 = .ok (.iastore, 1) := by decide +kernel
theorem dX0_readPairs_105 : decode cX0_readPairs 105 = .ok (.aload_n 0, 1) := by decide +kernel
theorem dX0_readPairs_106 : decode cX0_readPairs 106 = .ok (.iload 5, 2) := by decide +kernel
theorem dX0_readPairs_108 : decode cX0_readPairs 108 = .ok (.iconst 1, 1) := by decide +kernel
theorem dX0_readPairs_109 : decode cX0_readPairs 109 = .ok (.iadd, 1) := by decide +kernel
theorem dX0_readPairs_110 : decode cX0_readPairs 110 = .ok (.putfield 21, 3) := by decide +kernel
theorem dX0_readPairs_113 : decode cX0_readPairs 113 = .ok (.iinc 5 1, 3) := by decide +kernel
theorem dX0_readPairs_116 : decode cX0_readPairs 116 = .ok (.goto (-108), 3) := by decide +kernel
theorem dX0_readPairs_119 : decode cX0_readPairs 119 = .ok (.iconst 0, 1) := by decide +kernel
theorem dX0_readPairs_120 : decode cX0_readPairs 120 = .ok (.ireturn, 1) := by decide +kernel
theorem dX0_answer_0 : decode cX0_answer 0 = .ok (.aload_n 0, 1) := by decide +kernel
theorem dX0_answer_1 : decode cX0_answer 1 = .ok (.invokevirtual 44, 3) := by decide +kernel
theorem dX0_answer_4 : decode cX0_answer 4 = .ok (.istore_n 3, 1) := by decide +kernel
theorem dX0_answer_5 : decode cX0_answer 5 = .ok (.iload_n 2, 1) := by decide +kernel
theorem dX0_answer_6 : decode cX0_answer 6 = .ok (.iconst 1, 1) := by decide +kernel
theorem dX0_answer_7 : decode cX0_answer 7 = .ok (.if_icmp .ne 5, 3) := by decide +kernel
theorem dX0_answer_10 : decode cX0_answer 10 = .ok (.iload_n 3, 1) := by decide +kernel
theorem dX0_answer_11 : decode cX0_answer 11 = .ok (.ireturn, 1) := by decide +kernel
theorem dX0_answer_12 : decode cX0_answer 12 = .ok (.iload_n 3, 1) := by decide +kernel
theorem dX0_answer_13 : decode cX0_answer 13 = .ok (.bipush (-9), 2) := by decide +kernel
theorem dX0_answer_15 : decode cX0_answer 15 = .ok (.if_icmp .eq 8, 3) := by decide +kernel
theorem dX0_answer_18 : decode cX0_answer 18 = .ok (.bipush (-100), 2) := by decide +kernel
theorem dX0_answer_20 : decode cX0_answer 20 = .ok (.iload_n 3, 1) := by decide +kernel
theorem dX0_answer_21 : decode cX0_answer 21 = .ok (.isub, 1) := by decide +kernel
theorem dX0_answer_22 : decode cX0_answer 22 = .ok (.ireturn, 1) := by decide +kernel
theorem dX0_answer_23 : decode cX0_answer 23 = .ok (.iload_n 2, 1) := by decide +kernel
theorem dX0_answer_24 : decode cX0_answer 24 = .ok (.tableswitch 47 0 3 #[32, 47, 37, 42], 32) := by decide +kernel
theorem dX0_answer_56 : decode cX0_answer 56 = .ok (.aload_n 0, 1) := by decide +kernel
theorem dX0_answer_57 : decode cX0_answer 57 = .ok (.invokevirtual 48, 3) := by decide +kernel
theorem dX0_answer_60 : decode cX0_answer 60 = .ok (.ireturn, 1) := by decide +kernel
theorem dX0_answer_61 : decode cX0_answer 61 = .ok (.aload_n 0, 1) := by decide +kernel
theorem dX0_answer_62 : decode cX0_answer 62 = .ok (.invokevirtual 51, 3) := by decide +kernel
theorem dX0_answer_65 : decode cX0_answer 65 = .ok (.ireturn, 1) := by decide +kernel
theorem dX0_answer_66 : decode cX0_answer 66 = .ok (.aload_n 0, 1) := by decide +kernel
theorem dX0_answer_67 : decode cX0_answer 67 = .ok (.invokevirtual 54, 3) := by decide +kernel
theorem dX0_answer_70 : decode cX0_answer 70 = .ok (.ireturn, 1) := by decide +kernel
theorem dX0_answer_71 : decode cX0_answer 71 = .ok (.aload_n 1, 1) := by decide +kernel
theorem dX0_answer_72 : decode cX0_answer 72 = .ok (.iload_n 2, 1) := by decide +kernel
theorem dX0_answer_73 : decode cX0_answer 73 = .ok (.bipush 10, 2) := by decide +kernel
theorem dX0_answer_75 : decode cX0_answer 75 = .ok (.isub, 1) := by decide +kernel
theorem dX0_answer_76 : decode cX0_answer 76 = .ok (.invokevirtual 30, 3) := by decide +kernel
theorem dX0_answer_79 : decode cX0_answer 79 = .ok (.ifnonnull 8, 3) := by decide +kernel
theorem dX0_answer_82 : decode cX0_answer 82 = .ok (.bipush (-9), 2) := by decide +kernel
theorem dX0_answer_84 : decode cX0_answer 84 = .ok (.goto 11, 3) := by decide +kernel
theorem dX0_answer_87 : decode cX0_answer 87 = .ok (.aload_n 0, 1) := by decide +kernel
theorem dX0_answer_88 : decode cX0_answer 88 = .ok (.iload_n 2, 1) := by decide +kernel
theorem dX0_answer_89 : decode cX0_answer 89 = .ok (.bipush 10, 2) := by decide +kernel
theorem dX0_answer_91 : decode cX0_answer 91 = .ok (.isub, 1) := by decide +kernel
theorem dX0_answer_92 : decode cX0_answer 92 = .ok (.invokevirtual 57, 3) := by decide +kernel
theorem dX0_answer_95 : decode cX0_answer 95 = .ok (.ireturn, 1) := by decide +kernel
theorem dX0_firstWrong_0 : decode cX0_firstWrong 0 = .ok (.iconst 1, 1) := by decide +kernel
theorem dX0_firstWrong_1 : decode cX0_firstWrong 1 = .ok (.istore_n 1, 1) := by decide +kernel
theorem dX0_firstWrong_2 : decode cX0_firstWrong 2 = .ok (.iload_n 1, 1) := by decide +kernel
theorem dX0_firstWrong_3 : decode cX0_firstWrong 3 = .ok (.aload_n 0, 1) := by decide +kernel
theorem dX0_firstWrong_4 : decode cX0_firstWrong 4 = .ok (.getfield 21, 3) := by decide +kernel
theorem dX0_firstWrong_7 : decode cX0_firstWrong 7 = .ok (.if_icmp .ge 36, 3) := by decide +kernel
theorem dX0_firstWrong_10 : decode cX0_firstWrong 10 = .ok (.aload_n 0, 1) := by decide +kernel
theorem dX0_firstWrong_11 : decode cX0_firstWrong 11 = .ok (.getfield 15, 3) := by decide +kernel
theorem dX0_firstWrong_14 : decode cX0_firstWrong 14 = .ok (.iload_n 1, 1) := by decide +kernel
theorem dX0_firstWrong_15 : decode cX0_firstWrong 15 = .ok (.iaload, 1) := by decide +kernel
theorem dX0_firstWrong_16 : decode cX0_firstWrong 16 = .ok (.aload_n 0, 1) := by decide +kernel
theorem dX0_firstWrong_17 : decode cX0_firstWrong 17 = .ok (.getfield 15, 3) := by decide +kernel
theorem dX0_firstWrong_20 : decode cX0_firstWrong 20 = .ok (.iload_n 1, 1) := by decide +kernel
theorem dX0_firstWrong_21 : decode cX0_firstWrong 21 = .ok (.iconst 1, 1) := by decide +kernel
theorem dX0_firstWrong_22 : decode cX0_firstWrong 22 = .ok (.isub, 1) := by decide +kernel
theorem dX0_firstWrong_23 : decode cX0_firstWrong 23 = .ok (.iaload, 1) := by decide +kernel
theorem dX0_firstWrong_24 : decode cX0_firstWrong 24 = .ok (.if_icmp .lt 11, 3) := by decide +kernel
theorem dX0_firstWrong_27 : decode cX0_firstWrong 27 = .ok (.aload_n 0, 1) := by decide +kernel
theorem dX0_firstWrong_28 : decode cX0_firstWrong 28 = .ok (.iload_n 1, 1) := by decide +kernel
theorem dX0_firstWrong_29 : decode cX0_firstWrong 29 = .ok (.invokevirtual 61, 3) := by decide +kernel
theorem dX0_firstWrong_32 : decode cX0_firstWrong 32 = .ok (.ifCond .eq 5, 3) := by decide +kernel
theorem dX0_firstWrong_35 : decode cX0_firstWrong 35 = .ok (.iload_n 1, 1) := by decide +kernel
theorem dX0_firstWrong_36 : decode cX0_firstWrong 36 = .ok (.ireturn, 1) := by decide +kernel
theorem dX0_firstWrong_37 : decode cX0_firstWrong 37 = .ok (.iinc 1 1, 3) := by decide +kernel
theorem dX0_firstWrong_40 : decode cX0_firstWrong 40 = .ok (.goto (-38), 3) := by decide +kernel
theorem dX0_firstWrong_43 : decode cX0_firstWrong 43 = .ok (.bipush (-9), 2) := by decide +kernel
theorem dX0_firstWrong_45 : decode cX0_firstWrong 45 = .ok (.ireturn, 1) := by decide +kernel
theorem dX0_isStillIn_0 : decode cX0_isStillIn 0 = .ok (.iconst 0, 1) := by decide +kernel
theorem dX0_isStillIn_1 : decode cX0_isStillIn 1 = .ok (.istore_n 2, 1) := by decide +kernel
theorem dX0_isStillIn_2 : decode cX0_isStillIn 2 = .ok (.iload_n 2, 1) := by decide +kernel
theorem dX0_isStillIn_3 : decode cX0_isStillIn 3 = .ok (.iload_n 1, 1) := by decide +kernel
theorem dX0_isStillIn_4 : decode cX0_isStillIn 4 = .ok (.if_icmp .ge 41, 3) := by decide +kernel
theorem dX0_isStillIn_7 : decode cX0_isStillIn 7 = .ok (.aload_n 0, 1) := by decide +kernel
theorem dX0_isStillIn_8 : decode cX0_isStillIn 8 = .ok (.getfield 9, 3) := by decide +kernel
theorem dX0_isStillIn_11 : decode cX0_isStillIn 11 = .ok (.iload_n 2, 1) := by decide +kernel
theorem dX0_isStillIn_12 : decode cX0_isStillIn 12 = .ok (.iaload, 1) := by decide +kernel
theorem dX0_isStillIn_13 : decode cX0_isStillIn 13 = .ok (.aload_n 0, 1) := by decide +kernel
theorem dX0_isStillIn_14 : decode cX0_isStillIn 14 = .ok (.getfield 9, 3) := by decide +kernel
theorem dX0_isStillIn_17 : decode cX0_isStillIn 17 = .ok (.iload_n 1, 1) := by decide +kernel
theorem dX0_isStillIn_18 : decode cX0_isStillIn 18 = .ok (.iaload, 1) := by decide +kernel
theorem dX0_isStillIn_19 : decode cX0_isStillIn 19 = .ok (.if_icmp .ne 20, 3) := by decide +kernel
theorem dX0_isStillIn_22 : decode cX0_isStillIn 22 = .ok (.aload_n 0, 1) := by decide +kernel
theorem dX0_isStillIn_23 : decode cX0_isStillIn 23 = .ok (.getfield 18, 3) := by decide +kernel
theorem dX0_isStillIn_26 : decode cX0_isStillIn 26 = .ok (.iload_n 2, 1) := by decide +kernel
theorem dX0_isStillIn_27 : decode cX0_isStillIn 27 = .ok (.iaload, 1) := by decide +kernel
theorem dX0_isStillIn_28 : decode cX0_isStillIn 28 = .ok (.aload_n 0, 1) := by decide +kernel
theorem dX0_isStillIn_29 : decode cX0_isStillIn 29 = .ok (.getfield 15, 3) := by decide +kernel
theorem dX0_isStillIn_32 : decode cX0_isStillIn 32 = .ok (.iload_n 1, 1) := by decide +kernel
theorem dX0_isStillIn_33 : decode cX0_isStillIn 33 = .ok (.iaload, 1) := by decide +kernel
theorem dX0_isStillIn_34 : decode cX0_isStillIn 34 = .ok (.if_icmp .le 5, 3) := by decide +kernel
theorem dX0_isStillIn_37 : decode cX0_isStillIn 37 = .ok (.iconst 1, 1) := by decide +kernel
theorem dX0_isStillIn_38 : decode cX0_isStillIn 38 = .ok (.ireturn, 1) := by decide +kernel
theorem dX0_isStillIn_39 : decode cX0_isStillIn 39 = .ok (.iinc 2 1, 3) := by decide +kernel
theorem dX0_isStillIn_42 : decode cX0_isStillIn 42 = .ok (.goto (-40), 3) := by decide +kernel
theorem dX0_isStillIn_45 : decode cX0_isStillIn 45 = .ok (.iconst 0, 1) := by decide +kernel
theorem dX0_isStillIn_46 : decode cX0_isStillIn 46 = .ok (.ireturn, 1) := by decide +kernel
theorem dX0_minutesOfAll_0 : decode cX0_minutesOfAll 0 = .ok (.iconst 0, 1) := by decide +kernel
theorem dX0_minutesOfAll_1 : decode cX0_minutesOfAll 1 = .ok (.istore_n 1, 1) := by decide +kernel
theorem dX0_minutesOfAll_2 : decode cX0_minutesOfAll 2 = .ok (.iconst 0, 1) := by decide +kernel
theorem dX0_minutesOfAll_3 : decode cX0_minutesOfAll 3 = .ok (.istore_n 2, 1) := by decide +kernel
theorem dX0_minutesOfAll_4 : decode cX0_minutesOfAll 4 = .ok (.iload_n 2, 1) := by decide +kernel
theorem dX0_minutesOfAll_5 : decode cX0_minutesOfAll 5 = .ok (.aload_n 0, 1) := by decide +kernel
theorem dX0_minutesOfAll_6 : decode cX0_minutesOfAll 6 = .ok (.getfield 21, 3) := by decide +kernel
theorem dX0_minutesOfAll_9 : decode cX0_minutesOfAll 9 = .ok (.if_icmp .ge 25, 3) := by decide +kernel
theorem dX0_minutesOfAll_12 : decode cX0_minutesOfAll 12 = .ok (.iload_n 1, 1) := by decide +kernel
theorem dX0_minutesOfAll_13 : decode cX0_minutesOfAll 13 = .ok (.aload_n 0, 1) := by decide +kernel
theorem dX0_minutesOfAll_14 : decode cX0_minutesOfAll 14 = .ok (.getfield 18, 3) := by decide +kernel
theorem dX0_minutesOfAll_17 : decode cX0_minutesOfAll 17 = .ok (.iload_n 2, 1) := by decide +kernel
theorem dX0_minutesOfAll_18 : decode cX0_minutesOfAll 18 = .ok (.iaload, 1) := by decide +kernel
theorem dX0_minutesOfAll_19 : decode cX0_minutesOfAll 19 = .ok (.aload_n 0, 1) := by decide +kernel
theorem dX0_minutesOfAll_20 : decode cX0_minutesOfAll 20 = .ok (.getfield 15, 3) := by decide +kernel
theorem dX0_minutesOfAll_23 : decode cX0_minutesOfAll 23 = .ok (.iload_n 2, 1) := by decide +kernel
theorem dX0_minutesOfAll_24 : decode cX0_minutesOfAll 24 = .ok (.iaload, 1) := by decide +kernel
theorem dX0_minutesOfAll_25 : decode cX0_minutesOfAll 25 = .ok (.isub, 1) := by decide +kernel
theorem dX0_minutesOfAll_26 : decode cX0_minutesOfAll 26 = .ok (.iadd, 1) := by decide +kernel
theorem dX0_minutesOfAll_27 : decode cX0_minutesOfAll 27 = .ok (.istore_n 1, 1) := by decide +kernel
theorem dX0_minutesOfAll_28 : decode cX0_minutesOfAll 28 = .ok (.iinc 2 1, 3) := by decide +kernel
theorem dX0_minutesOfAll_31 : decode cX0_minutesOfAll 31 = .ok (.goto (-27), 3) := by decide +kernel
theorem dX0_minutesOfAll_34 : decode cX0_minutesOfAll 34 = .ok (.iload_n 1, 1) := by decide +kernel
theorem dX0_minutesOfAll_35 : decode cX0_minutesOfAll 35 = .ok (.ireturn, 1) := by decide +kernel
theorem dX0_minutesOf_0 : decode cX0_minutesOf 0 = .ok (.iconst 0, 1) := by decide +kernel
theorem dX0_minutesOf_1 : decode cX0_minutesOf 1 = .ok (.istore_n 2, 1) := by decide +kernel
theorem dX0_minutesOf_2 : decode cX0_minutesOf 2 = .ok (.iconst 0, 1) := by decide +kernel
theorem dX0_minutesOf_3 : decode cX0_minutesOf 3 = .ok (.istore_n 3, 1) := by decide +kernel
theorem dX0_minutesOf_4 : decode cX0_minutesOf 4 = .ok (.iload_n 3, 1) := by decide +kernel
theorem dX0_minutesOf_5 : decode cX0_minutesOf 5 = .ok (.aload_n 0, 1) := by decide +kernel
theorem dX0_minutesOf_6 : decode cX0_minutesOf 6 = .ok (.getfield 21, 3) := by decide +kernel
theorem dX0_minutesOf_9 : decode cX0_minutesOf 9 = .ok (.if_icmp .ge 35, 3) := by decide +kernel
theorem dX0_minutesOf_12 : decode cX0_minutesOf 12 = .ok (.aload_n 0, 1) := by decide +kernel
theorem dX0_minutesOf_13 : decode cX0_minutesOf 13 = .ok (.getfield 9, 3) := by decide +kernel
theorem dX0_minutesOf_16 : decode cX0_minutesOf 16 = .ok (.iload_n 3, 1) := by decide +kernel
theorem dX0_minutesOf_17 : decode cX0_minutesOf 17 = .ok (.iaload, 1) := by decide +kernel
theorem dX0_minutesOf_18 : decode cX0_minutesOf 18 = .ok (.iload_n 1, 1) := by decide +kernel
theorem dX0_minutesOf_19 : decode cX0_minutesOf 19 = .ok (.if_icmp .ne 19, 3) := by decide +kernel
theorem dX0_minutesOf_22 : decode cX0_minutesOf 22 = .ok (.iload_n 2, 1) := by decide +kernel
theorem dX0_minutesOf_23 : decode cX0_minutesOf 23 = .ok (.aload_n 0, 1) := by decide +kernel
theorem dX0_minutesOf_24 : decode cX0_minutesOf 24 = .ok (.getfield 18, 3) := by decide +kernel
theorem dX0_minutesOf_27 : decode cX0_minutesOf 27 = .ok (.iload_n 3, 1) := by decide +kernel
theorem dX0_minutesOf_28 : decode cX0_minutesOf 28 = .ok (.iaload, 1) := by decide +kernel
theorem dX0_minutesOf_29 : decode cX0_minutesOf 29 = .ok (.aload_n 0, 1) := by decide +kernel
theorem dX0_minutesOf_30 : decode cX0_minutesOf 30 = .ok (.getfield 15, 3) := by decide +kernel
theorem dX0_minutesOf_33 : decode cX0_minutesOf 33 = .ok (.iload_n 3, 1) := by decide +kernel
theorem dX0_minutesOf_34 : decode cX0_minutesOf 34 = .ok (.iaload, 1) := by decide +kernel
theorem dX0_minutesOf_35 : decode cX0_minutesOf 35 = .ok (.isub, 1) := by decide +kernel
theorem dX0_minutesOf_36 : decode cX0_minutesOf 36 = .ok (.iadd, 1) := by decide +kernel
theorem dX0_minutesOf_37 : decode cX0_minutesOf 37 = .ok (.istore_n 2, 1) := by decide +kernel
theorem dX0_minutesOf_38 : decode cX0_minutesOf 38 = .ok (.iinc 3 1, 3) := by decide +kernel
theorem dX0_minutesOf_41 : decode cX0_minutesOf 41 = .ok (.goto (-37), 3) := by decide +kernel
theorem dX0_minutesOf_44 : decode cX0_minutesOf 44 = .ok (.iload_n 2, 1) := by decide +kernel
theorem dX0_minutesOf_45 : decode cX0_minutesOf 45 = .ok (.ireturn, 1) := by decide +kernel
theorem dX0_latestEnd_0 : decode cX0_latestEnd 0 = .ok (.bipush (-9), 2) := by decide +kernel
theorem dX0_latestEnd_2 : decode cX0_latestEnd 2 = .ok (.istore_n 1, 1) := by decide +kernel
theorem dX0_latestEnd_3 : decode cX0_latestEnd 3 = .ok (.iconst 0, 1) := by decide +kernel
theorem dX0_latestEnd_4 : decode cX0_latestEnd 4 = .ok (.istore_n 2, 1) := by decide +kernel
theorem dX0_latestEnd_5 : decode cX0_latestEnd 5 = .ok (.iload_n 2, 1) := by decide +kernel
theorem dX0_latestEnd_6 : decode cX0_latestEnd 6 = .ok (.aload_n 0, 1) := by decide +kernel
theorem dX0_latestEnd_7 : decode cX0_latestEnd 7 = .ok (.getfield 21, 3) := by decide +kernel
theorem dX0_latestEnd_10 : decode cX0_latestEnd 10 = .ok (.if_icmp .ge 20, 3) := by decide +kernel
theorem dX0_latestEnd_13 : decode cX0_latestEnd 13 = .ok (.iload_n 1, 1) := by decide +kernel
theorem dX0_latestEnd_14 : decode cX0_latestEnd 14 = .ok (.aload_n 0, 1) := by decide +kernel
theorem dX0_latestEnd_15 : decode cX0_latestEnd 15 = .ok (.getfield 18, 3) := by decide +kernel
theorem dX0_latestEnd_18 : decode cX0_latestEnd 18 = .ok (.iload_n 2, 1) := by decide +kernel
theorem dX0_latestEnd_19 : decode cX0_latestEnd 19 = .ok (.iaload, 1) := by decide +kernel
theorem dX0_latestEnd_20 : decode cX0_latestEnd 20 = .ok (.invokestatic 64, 3) := by decide +kernel
theorem dX0_latestEnd_23 : decode cX0_latestEnd 23 = .ok (.istore_n 1, 1) := by decide +kernel
theorem dX0_latestEnd_24 : decode cX0_latestEnd 24 = .ok (.iinc 2 1, 3) := by decide +kernel
theorem dX0_latestEnd_27 : decode cX0_latestEnd 27 = .ok (.goto (-22), 3) := by decide +kernel
theorem dX0_latestEnd_30 : decode cX0_latestEnd 30 = .ok (.iload_n 1, 1) := by decide +kernel
theorem dX0_latestEnd_31 : decode cX0_latestEnd 31 = .ok (.ireturn, 1) := by decide +kernel
theorem dX0_mostAtOnce_0 : decode cX0_mostAtOnce 0 = .ok (.iconst 0, 1) := by decide +kernel
theorem dX0_mostAtOnce_1 : decode cX0_mostAtOnce 1 = .ok (.istore_n 1, 1) := by decide +kernel
theorem dX0_mostAtOnce_2 : decode cX0_mostAtOnce 2 = .ok (.iconst 0, 1) := by decide +kernel
theorem dX0_mostAtOnce_3 : decode cX0_mostAtOnce 3 = .ok (.istore_n 2, 1) := by decide +kernel
theorem dX0_mostAtOnce_4 : decode cX0_mostAtOnce 4 = .ok (.iload_n 2, 1) := by decide +kernel
theorem dX0_mostAtOnce_5 : decode cX0_mostAtOnce 5 = .ok (.aload_n 0, 1) := by decide +kernel
theorem dX0_mostAtOnce_6 : decode cX0_mostAtOnce 6 = .ok (.getfield 21, 3) := by decide +kernel
theorem dX0_mostAtOnce_9 : decode cX0_mostAtOnce 9 = .ok (.if_icmp .ge 24, 3) := by decide +kernel
theorem dX0_mostAtOnce_12 : decode cX0_mostAtOnce 12 = .ok (.iload_n 1, 1) := by decide +kernel
theorem dX0_mostAtOnce_13 : decode cX0_mostAtOnce 13 = .ok (.aload_n 0, 1) := by decide +kernel
theorem dX0_mostAtOnce_14 : decode cX0_mostAtOnce 14 = .ok (.aload_n 0, 1) := by decide +kernel
theorem dX0_mostAtOnce_15 : decode cX0_mostAtOnce 15 = .ok (.getfield 15, 3) := by decide +kernel
theorem dX0_mostAtOnce_18 : decode cX0_mostAtOnce 18 = .ok (.iload_n 2, 1) := by decide +kernel
theorem dX0_mostAtOnce_19 : decode cX0_mostAtOnce 19 = .ok (.iaload, 1) := by decide +kernel
theorem dX0_mostAtOnce_20 : decode cX0_mostAtOnce 20 = .ok (.invokevirtual 70, 3) := by decide +kernel
theorem dX0_mostAtOnce_23 : decode cX0_mostAtOnce 23 = .ok (.invokestatic 64, 3) := by decide +kernel
theorem dX0_mostAtOnce_26 : decode cX0_mostAtOnce 26 = .ok (.istore_n 1, 1) := by decide +kernel
theorem dX0_mostAtOnce_27 : decode cX0_mostAtOnce 27 = .ok (.iinc 2 1, 3) := by decide +kernel
theorem dX0_mostAtOnce_30 : decode cX0_mostAtOnce 30 = .ok (.goto (-26), 3) := by decide +kernel
theorem dX0_mostAtOnce_33 : decode cX0_mostAtOnce 33 = .ok (.iload_n 1, 1) := by decide +kernel
theorem dX0_mostAtOnce_34 : decode cX0_mostAtOnce 34 = .ok (.ireturn, 1) := by decide +kernel
theorem dX0_inAt_0 : decode cX0_inAt 0 = .ok (.iconst 0, 1) := by decide +kernel
theorem dX0_inAt_1 : decode cX0_inAt 1 = .ok (.istore_n 2, 1) := by decide +kernel
theorem dX0_inAt_2 : decode cX0_inAt 2 = .ok (.iconst 0, 1) := by decide +kernel
theorem dX0_inAt_3 : decode cX0_inAt 3 = .ok (.istore_n 3, 1) := by decide +kernel
theorem dX0_inAt_4 : decode cX0_inAt 4 = .ok (.iload_n 3, 1) := by decide +kernel
theorem dX0_inAt_5 : decode cX0_inAt 5 = .ok (.aload_n 0, 1) := by decide +kernel
theorem dX0_inAt_6 : decode cX0_inAt 6 = .ok (.getfield 21, 3) := by decide +kernel
theorem dX0_inAt_9 : decode cX0_inAt 9 = .ok (.if_icmp .ge 32, 3) := by decide +kernel
theorem dX0_inAt_12 : decode cX0_inAt 12 = .ok (.aload_n 0, 1) := by decide +kernel
theorem dX0_inAt_13 : decode cX0_inAt 13 = .ok (.getfield 15, 3) := by decide +kernel
theorem dX0_inAt_16 : decode cX0_inAt 16 = .ok (.iload_n 3, 1) := by decide +kernel
theorem dX0_inAt_17 : decode cX0_inAt 17 = .ok (.iaload, 1) := by decide +kernel
theorem dX0_inAt_18 : decode cX0_inAt 18 = .ok (.iload_n 1, 1) := by decide +kernel
theorem dX0_inAt_19 : decode cX0_inAt 19 = .ok (.if_icmp .gt 16, 3) := by decide +kernel
theorem dX0_inAt_22 : decode cX0_inAt 22 = .ok (.iload_n 1, 1) := by decide +kernel
theorem dX0_inAt_23 : decode cX0_inAt 23 = .ok (.aload_n 0, 1) := by decide +kernel
theorem dX0_inAt_24 : decode cX0_inAt 24 = .ok (.getfield 18, 3) := by decide +kernel
theorem dX0_inAt_27 : decode cX0_inAt 27 = .ok (.iload_n 3, 1) := by decide +kernel
theorem dX0_inAt_28 : decode cX0_inAt 28 = .ok (.iaload, 1) := by decide +kernel
theorem dX0_inAt_29 : decode cX0_inAt 29 = .ok (.if_icmp .ge 6, 3) := by decide +kernel
theorem dX0_inAt_32 : decode cX0_inAt 32 = .ok (.iinc 2 1, 3) := by decide +kernel
theorem dX0_inAt_35 : decode cX0_inAt 35 = .ok (.iinc 3 1, 3) := by decide +kernel
theorem dX0_inAt_38 : decode cX0_inAt 38 = .ok (.goto (-34), 3) := by decide +kernel
theorem dX0_inAt_41 : decode cX0_inAt 41 = .ok (.iload_n 2, 1) := by decide +kernel
theorem dX0_inAt_42 : decode cX0_inAt 42 = .ok (.ireturn, 1) := by decide +kernel
theorem dX1_init_0 : decode cX1_init 0 = .ok (.aload_n 0, 1) := by decide +kernel
theorem dX1_init_1 : decode cX1_init 1 = .ok (.invokespecial 3, 3) := by decide +kernel
theorem dX1_init_4 : decode cX1_init 4 = .ok (.aload_n 0, 1) := by decide +kernel
theorem dX1_init_5 : decode cX1_init 5 = .ok (.new 9, 3) := by decide +kernel
theorem dX1_init_8 : decode cX1_init 8 = .ok (.dup, 1) := by decide +kernel
theorem dX1_init_9 : decode cX1_init 9 = .ok (.invokespecial 11, 3) := by decide +kernel
theorem dX1_init_12 : decode cX1_init 12 = .ok (.putfield 12, 3) := by decide +kernel
theorem dX1_init_15 : decode cX1_init 15 = .ok (.aload_n 0, 1) := by decide +kernel
theorem dX1_init_16 : decode cX1_init 16 = .ok (.iconst 5, 1) := by decide +kernel
theorem dX1_init_17 : decode cX1_init 17 = .ok (.newarray .int, 2) := by decide +kernel
theorem dX1_init_19 : decode cX1_init 19 = .ok (.putfield 18, 3) := by decide +kernel
theorem dX1_init_22 : decode cX1_init 22 = .ok (.aload_n 0, 1) := by decide +kernel
theorem dX1_init_23 : decode cX1_init 23 = .ok (.iconst 5, 1) := by decide +kernel
theorem dX1_init_24 : decode cX1_init 24 = .ok (.newarray .int, 2) := by decide +kernel
theorem dX1_init_26 : decode cX1_init 26 = .ok (.putfield 22, 3) := by decide +kernel
theorem dX1_init_29 : decode cX1_init 29 = .ok (.aload_n 0, 1) := by decide +kernel
theorem dX1_init_30 : decode cX1_init 30 = .ok (.iconst 5, 1) := by decide +kernel
theorem dX1_init_31 : decode cX1_init 31 = .ok (.newarray .int, 2) := by decide +kernel
theorem dX1_init_33 : decode cX1_init 33 = .ok (.putfield 25, 3) := by decide +kernel
theorem dX1_init_36 : decode cX1_init 36 = .ok (.aload_n 0, 1) := by decide +kernel
theorem dX1_init_37 : decode cX1_init 37 = .ok (.iconst 0, 1) := by decide +kernel
theorem dX1_init_38 : decode cX1_init 38 = .ok (.putfield 28, 3) := by decide +kernel
theorem dX1_init_41 : decode cX1_init 41 = .ok (.aload_n 0, 1) := by decide +kernel
theorem dX1_init_42 : decode cX1_init 42 = .ok (.iconst 0, 1) := by decide +kernel
theorem dX1_init_43 : decode cX1_init 43 = .ok (.putfield 32, 3) := by decide +kernel
theorem dX1_init_46 : decode cX1_init 46 = .ok (.aload_n 0, 1) := by decide +kernel
theorem dX1_init_47 : decode cX1_init 47 = .ok (.iconst 0, 1) := by decide +kernel
theorem dX1_init_48 : decode cX1_init 48 = .ok (.putfield 35, 3) := by decide +kernel
theorem dX1_init_51 : decode cX1_init 51 = .ok (.return_, 1) := by decide +kernel
theorem dX1_readAll_0 : decode cX1_readAll 0 = .ok (.aload_n 0, 1) := by decide +kernel
theorem dX1_readAll_1 : decode cX1_readAll 1 = .ok (.getfield 12, 3) := by decide +kernel
theorem dX1_readAll_4 : decode cX1_readAll 4 = .ok (.invokevirtual 38, 3) := by decide +kernel
theorem dX1_readAll_7 : decode cX1_readAll 7 = .ok (.aload_n 0, 1) := by decide +kernel
theorem dX1_readAll_8 : decode cX1_readAll 8 = .ok (.iconst 0, 1) := by decide +kernel
theorem dX1_readAll_9 : decode cX1_readAll 9 = .ok (.putfield 28, 3) := by decide +kernel
theorem dX1_readAll_12 : decode cX1_readAll 12 = .ok (.iconst 0, 1) := by decide +kernel
theorem dX1_readAll_13 : decode cX1_readAll 13 = .ok (.istore 4, 2) := by decide +kernel
theorem dX1_readAll_15 : decode cX1_readAll 15 = .ok (.iload 4, 2) := by decide +kernel
theorem dX1_readAll_17 : decode cX1_readAll 17 = .ok (.iload_n 3, 1) := by decide +kernel
theorem dX1_readAll_18 : decode cX1_readAll 18 = .ok (.if_icmp .ge 28, 3) := by decide +kernel
theorem dX1_readAll_21 : decode cX1_readAll 21 = .ok (.aload_n 0, 1) := by decide +kernel
theorem dX1_readAll_22 : decode cX1_readAll 22 = .ok (.aload_n 1, 1) := by decide +kernel
theorem dX1_readAll_23 : decode cX1_readAll 23 = .ok (.getfield 41, 3) := by decide +kernel
theorem dX1_readAll_26 : decode cX1_readAll 26 = .ok (.iload_n 2, 1) := by decide +kernel
theorem dX1_readAll_27 : decode cX1_readAll 27 = .ok (.iload 4, 2) := by decide +kernel
theorem dX1_readAll_29 : decode cX1_readAll 29 = .ok (.iadd, 1) := by decide +kernel
theorem dX1_readAll_30 : decode cX1_readAll 30 = .ok (.iaload, 1) := by decide +kernel
theorem dX1_readAll_31 : decode cX1_readAll 31 = .ok (.invokevirtual 46, 3) := by decide +kernel
theorem dX1_readAll_34 : decode cX1_readAll 34 = .ok (.ifCond .ne 6, 3) := by decide +kernel
theorem dX1_readAll_37 : decode cX1_readAll 37 = .ok (.iload 4, 2) := by decide +kernel
theorem dX1_readAll_39 : decode cX1_readAll 39 = .ok (.ireturn, 1) := by decide +kernel
theorem dX1_readAll_40 : decode cX1_readAll 40 = .ok (.iinc 4 1, 3) := by decide +kernel
theorem dX1_readAll_43 : decode cX1_readAll 43 = .ok (.goto (-28), 3) := by decide +kernel
theorem dX1_readAll_46 : decode cX1_readAll 46 = .ok (.aload_n 0, 1) := by decide +kernel
theorem dX1_readAll_47 : decode cX1_readAll 47 = .ok (.getfield 28, 3) := by decide +kernel
theorem dX1_readAll_50 : decode cX1_readAll 50 = .ok (.bipush 8, 2) := by decide +kernel
theorem dX1_readAll_52 : decode cX1_readAll 52 = .ok (.if_icmp .ne 8, 3) := by decide +kernel
theorem dX1_readAll_55 : decode cX1_readAll 55 = .ok (.bipush (-9), 2) := by decide +kernel
theorem dX1_readAll_57 : decode cX1_readAll 57 = .ok (.goto 4, 3) := by decide +kernel
theorem dX1_readAll_60 : decode cX1_readAll 60 = .ok (.iload_n 3, 1) := by decide +kernel
theorem dX1_readAll_61 : decode cX1_readAll 61 = .ok (.ireturn, 1) := by decide +kernel
theorem dX1_handOver_0 : decode cX1_handOver 0 = .ok (.aload_n 0, 1) := by decide +kernel
theorem dX1_handOver_1 : decode cX1_handOver 1 = .ok (.getfield 12, 3) := by decide +kernel
theorem dX1_handOver_4 : decode cX1_handOver 4 = .ok (.astore_n 2, 1) := by decide +kernel
theorem dX1_handOver_5 : decode cX1_handOver 5 = .ok (.iconst 0, 1) := by decide +kernel
theorem dX1_handOver_6 : decode cX1_handOver 6 = .ok (.istore_n 3, 1) := by decide +kernel
theorem dX1_handOver_7 : decode cX1_handOver 7 = .ok (.iload_n 3, 1) := by decide +kernel
theorem dX1_handOver_8 : decode cX1_handOver 8 = .ok (.aload_n 2, 1) := by decide +kernel
theorem dX1_handOver_9 : decode cX1_handOver 9 = .ok (.getfield 50, 3) := by decide +kernel
theorem dX1_handOver_12 : decode cX1_handOver 12 = .ok (.if_icmp .ge 37, 3) := by decide +kernel
theorem dX1_handOver_15 : decode cX1_handOver 15 = .ok (.aload_n 2, 1) := by decide +kernel
theorem dX1_handOver_16 : decode cX1_handOver 16 = .ok (.getfield 53, 3) := by decide +kernel
theorem dX1_handOver_19 : decode cX1_handOver 19 = .ok (.iload_n 3, 1) := by decide +kernel
theorem dX1_handOver_20 : decode cX1_handOver 20 = .ok (.aload_n 0, 1) := by decide +kernel
theorem dX1_handOver_21 : decode cX1_handOver 21 = .ok (.getfield 18, 3) := by decide +kernel
theorem dX1_handOver_24 : decode cX1_handOver 24 = .ok (.iload_n 3, 1) := by decide +kernel
theorem dX1_handOver_25 : decode cX1_handOver 25 = .ok (.iaload, 1) := by decide +kernel
theorem dX1_handOver_26 : decode cX1_handOver 26 = .ok (.iload_n 3, 1) := by decide +kernel
theorem dX1_handOver_27 : decode cX1_handOver 27 = .ok (.aload_n 0, 1) := by decide +kernel
theorem dX1_handOver_28 : decode cX1_handOver 28 = .ok (.getfield 22, 3) := by decide +kernel
theorem dX1_handOver_31 : decode cX1_handOver 31 = .ok (.iload_n 3, 1) := by decide +kernel
theorem dX1_handOver_32 : decode cX1_handOver 32 = .ok (.iaload, 1) := by decide +kernel
theorem dX1_handOver_33 : decode cX1_handOver 33 = .ok (.aload_n 0, 1) := by decide +kernel
theorem dX1_handOver_34 : decode cX1_handOver 34 = .ok (.getfield 25, 3) := by decide +kernel
theorem dX1_handOver_37 : decode cX1_handOver 37 = .ok (.iload_n 3, 1) := by decide +kernel
theorem dX1_handOver_38 : decode cX1_handOver 38 = .ok (.iaload, 1) := by decide +kernel
theorem dX1_handOver_39 : decode cX1_handOver 39 = .ok (.invokestatic 57, 3) := by decide +kernel
theorem dX1_handOver_42 : decode cX1_handOver 42 = .ok (.aastore, 1) := by decide +kernel
theorem dX1_handOver_43 : decode cX1_handOver 43 = .ok (.iinc 3 1, 3) := by decide +kernel
theorem dX1_handOver_46 : decode cX1_handOver 46 = .ok (.goto (-39), 3) := by decide +kernel
theorem dX1_handOver_49 : decode cX1_handOver 49 = .ok (.aload_n 0, 1) := by decide +kernel
theorem dX1_handOver_50 : decode cX1_handOver 50 = .ok (.aload_n 1, 1) := by decide +kernel
theorem dX1_handOver_51 : decode cX1_handOver 51 = .ok (.putfield 12, 3) := by decide +kernel
theorem dX1_handOver_54 : decode cX1_handOver 54 = .ok (.aload_n 2, 1) := by decide +kernel
theorem dX1_handOver_55 : decode cX1_handOver 55 = .ok (.areturn, 1) := by decide +kernel
theorem dX1_takes_0 : decode cX1_takes 0 = .ok (.aload_n 0, 1) := by decide +kernel
theorem dX1_takes_1 : decode cX1_takes 1 = .ok (.getfield 28, 3) := by decide +kernel
theorem dX1_takes_4 : decode cX1_takes 4 = .ok (.tableswitch 122 0 7 #[48, 65, 71, 92, 98, 104, 110, 116], 48) := by decide +kernel
theorem dX1_takes_52 : decode cX1_takes 52 = .ok (.aload_n 0, 1) := by decide +kernel
theorem dX1_takes_53 : decode cX1_takes 53 = .ok (.iload_n 1, 1) := by decide +kernel
theorem dX1_takes_54 : decode cX1_takes 54 = .ok (.bipush 118, 2) := by decide +kernel
theorem dX1_takes_56 : decode cX1_takes 56 = .ok (.if_icmp .ne 7, 3) := by decide +kernel
theorem dX1_takes_59 : decode cX1_takes 59 = .ok (.iconst 1, 1) := by decide +kernel
theorem dX1_takes_60 : decode cX1_takes 60 = .ok (.goto 4, 3) := by decide +kernel
theorem dX1_takes_63 : decode cX1_takes 63 = .ok (.iconst 0, 1) := by decide +kernel
theorem dX1_takes_64 : decode cX1_takes 64 = .ok (.iconst 1, 1) := by decide +kernel
theorem dX1_takes_65 : decode cX1_takes 65 = .ok (.invokevirtual 61, 3) := by decide +kernel
theorem dX1_takes_68 : decode cX1_takes 68 = .ok (.ireturn, 1) := by decide +kernel
theorem dX1_takes_69 : decode cX1_takes 69 = .ok (.aload_n 0, 1) := by decide +kernel
theorem dX1_takes_70 : decode cX1_takes 70 = .ok (.iload_n 1, 1) := by decide +kernel
theorem dX1_takes_71 : decode cX1_takes 71 = .ok (.invokevirtual 65, 3) := by decide +kernel
theorem dX1_takes_74 : decode cX1_takes 74 = .ok (.ireturn, 1) := by decide +kernel
theorem dX1_takes_75 : decode cX1_takes 75 = .ok (.iload_n 1, 1) := by decide +kernel
theorem dX1_takes_76 : decode cX1_takes 76 = .ok (.bipush 59, 2) := by decide +kernel
theorem dX1_takes_78 : decode cX1_takes 78 = .ok (.if_icmp .ne 12, 3) := by decide +kernel
theorem dX1_takes_81 : decode cX1_takes 81 = .ok (.aload_n 0, 1) := by decide +kernel
theorem dX1_takes_82 : decode cX1_takes 82 = .ok (.iconst 1, 1) := by decide +kernel
theorem dX1_takes_83 : decode cX1_takes 83 = .ok (.iconst 3, 1) := by decide +kernel
theorem dX1_takes_84 : decode cX1_takes 84 = .ok (.invokevirtual 61, 3) := by decide +kernel
theorem dX1_takes_87 : decode cX1_takes 87 = .ok (.goto 8, 3) := by decide +kernel
theorem dX1_takes_90 : decode cX1_takes 90 = .ok (.aload_n 0, 1) := by decide +kernel
theorem dX1_takes_91 : decode cX1_takes 91 = .ok (.iload_n 1, 1) := by decide +kernel
theorem dX1_takes_92 : decode cX1_takes 92 = .ok (.invokevirtual 65, 3) := by decide +kernel
theorem dX1_takes_95 : decode cX1_takes 95 = .ok (.ireturn, 1) := by decide +kernel
theorem dX1_takes_96 : decode cX1_takes 96 = .ok (.aload_n 0, 1) := by decide +kernel
theorem dX1_takes_97 : decode cX1_takes 97 = .ok (.iload_n 1, 1) := by decide +kernel
theorem dX1_takes_98 : decode cX1_takes 98 = .ok (.invokevirtual 68, 3) := by decide +kernel
theorem dX1_takes_101 : decode cX1_takes 101 = .ok (.ireturn, 1) := by decide +kernel
theorem dX1_takes_102 : decode cX1_takes 102 = .ok (.aload_n 0, 1) := by decide +kernel
theorem dX1_takes_103 : decode cX1_takes 103 = .ok (.iload_n 1, 1) := by decide +kernel
theorem dX1_takes_104 : decode cX1_takes 104 = .ok (.invokevirtual 71, 3) := by decide +kernel
theorem dX1_takes_107 : decode cX1_takes 107 = .ok (.ireturn, 1) := by decide +kernel
theorem dX1_takes_108 : decode cX1_takes 108 = .ok (.aload_n 0, 1) := by decide +kernel
theorem dX1_takes_109 : decode cX1_takes 109 = .ok (.iload_n 1, 1) := by decide +kernel
theorem dX1_takes_110 : decode cX1_takes 110 = .ok (.invokevirtual 74, 3) := by decide +kernel
theorem dX1_takes_113 : decode cX1_takes 113 = .ok (.ireturn, 1) := by decide +kernel
theorem dX1_takes_114 : decode cX1_takes 114 = .ok (.aload_n 0, 1) := by decide +kernel
theorem dX1_takes_115 : decode cX1_takes 115 = .ok (.iload_n 1, 1) := by decide +kernel
theorem dX1_takes_116 : decode cX1_takes 116 = .ok (.invokevirtual 77, 3) := by decide +kernel
theorem dX1_takes_119 : decode cX1_takes 119 = .ok (.ireturn, 1) := by decide +kernel
theorem dX1_takes_120 : decode cX1_takes 120 = .ok (.aload_n 0, 1) := by decide +kernel
theorem dX1_takes_121 : decode cX1_takes 121 = .ok (.iload_n 1, 1) := by decide +kernel
theorem dX1_takes_122 : decode cX1_takes 122 = .ok (.invokevirtual 80, 3) := by decide +kernel
theorem dX1_takes_125 : decode cX1_takes 125 = .ok (.ireturn, 1) := by decide +kernel
theorem dX1_takes_126 : decode cX1_takes 126 = .ok (.aload_n 0, 1) := by decide +kernel
theorem dX1_takes_127 : decode cX1_takes 127 = .ok (.iload_n 1, 1) := by decide +kernel
theorem dX1_takes_128 : decode cX1_takes 128 = .ok (.invokevirtual 83, 3) := by decide +kernel
theorem dX1_takes_131 : decode cX1_takes 131 = .ok (.ireturn, 1) := by decide +kernel
theorem dX1_goesOn_0 : decode cX1_goesOn 0 = .ok (.iload_n 1, 1) := by decide +kernel
theorem dX1_goesOn_1 : decode cX1_goesOn 1 = .ok (.ifCond .eq 8, 3) := by decide +kernel
theorem dX1_goesOn_4 : decode cX1_goesOn 4 = .ok (.aload_n 0, 1) := by decide +kernel
theorem dX1_goesOn_5 : decode cX1_goesOn 5 = .ok (.iload_n 2, 1) := by decide +kernel
theorem dX1_goesOn_6 : decode cX1_goesOn 6 = .ok (.putfield 28, 3) := by decide +kernel
theorem dX1_goesOn_9 : decode cX1_goesOn 9 = .ok (.iload_n 1, 1) := by decide +kernel
theorem dX1_goesOn_10 : decode cX1_goesOn 10 = .ok (.ireturn, 1) := by decide +kernel
theorem dX1_takesGloom_0 : decode cX1_takesGloom 0 = .ok (.iload_n 1, 1) := by decide +kernel
theorem dX1_takesGloom_1 : decode cX1_takesGloom 1 = .ok (.invokestatic 86, 3) := by decide +kernel
theorem dX1_takesGloom_4 : decode cX1_takesGloom 4 = .ok (.ifCond .eq 15, 3) := by decide +kernel
theorem dX1_takesGloom_7 : decode cX1_takesGloom 7 = .ok (.aload_n 0, 1) := by decide +kernel
theorem dX1_takesGloom_8 : decode cX1_takesGloom 8 = .ok (.getfield 12, 3) := by decide +kernel
theorem dX1_takesGloom_11 : decode cX1_takesGloom 11 = .ok (.getfield 89, 3) := by decide +kernel
theorem dX1_takesGloom_14 : decode cX1_takesGloom 14 = .ok (.bipush 6, 2) := by decide +kernel
theorem dX1_takesGloom_16 : decode cX1_takesGloom 16 = .ok (.if_icmp .lt 5, 3) := by decide +kernel
theorem dX1_takesGloom_19 : decode cX1_takesGloom 19 = .ok (.iconst 0, 1) := by decide +kernel
theorem dX1_takesGloom_20 : decode cX1_takesGloom 20 = .ok (.ireturn, 1) := by decide +kernel
theorem dX1_takesGloom_21 : decode cX1_takesGloom 21 = .ok (.aload_n 0, 1) := by decide +kernel
theorem dX1_takesGloom_22 : decode cX1_takesGloom 22 = .ok (.getfield 12, 3) := by decide +kernel
theorem dX1_takesGloom_25 : decode cX1_takesGloom 25 = .ok (.getfield 92, 3) := by decide +kernel
theorem dX1_takesGloom_28 : decode cX1_takesGloom 28 = .ok (.aload_n 0, 1) := by decide +kernel
theorem dX1_takesGloom_29 : decode cX1_takesGloom 29 = .ok (.getfield 12, 3) := by decide +kernel
theorem dX1_takesGloom_32 : decode cX1_takesGloom 32 = .ok (.getfield 89, 3) := by decide +kernel
theorem dX1_takesGloom_35 : decode cX1_takesGloom 35 = .ok (.iload_n 1, 1) := by decide +kernel
theorem dX1_takesGloom_36 : decode cX1_takesGloom 36 = .ok (.bipush 48, 2) := by decide +kernel
theorem dX1_takesGloom_38 : decode cX1_takesGloom 38 = .ok (.isub, 1) := by decide +kernel
theorem dX1_takesGloom_39 : decode cX1_takesGloom 39 = .ok (.iastore, 1) := by decide +kernel
theorem dX1_takesGloom_40 : decode cX1_takesGloom 40 = .ok (.aload_n 0, 1) := by decide +kernel
theorem dX1_takesGloom_41 : decode cX1_takesGloom 41 = .ok (.getfield 12, 3) := by decide +kernel
theorem dX1_takesGloom_44 : decode cX1_takesGloom 44 = .ok (.dup, 1) := by decide +kernel
theorem dX1_takesGloom_45 : decode cX1_takesGloom 45 = .ok (.getfield 89, 3) := by decide +kernel
theorem dX1_takesGloom_48 : decode cX1_takesGloom 48 = .ok (.iconst 1, 1) := by decide +kernel
theorem dX1_takesGloom_49 : decode cX1_takesGloom 49 = .ok (.iadd, 1) := by decide +kernel
theorem dX1_takesGloom_50 : decode cX1_takesGloom 50 = .ok (.putfield 89, 3) := by decide +kernel
theorem dX1_takesGloom_53 : decode cX1_takesGloom 53 = .ok (.aload_n 0, 1) := by decide +kernel
theorem dX1_takesGloom_54 : decode cX1_takesGloom 54 = .ok (.iconst 1, 1) := by decide +kernel
theorem dX1_takesGloom_55 : decode cX1_takesGloom 55 = .ok (.iconst 2, 1) := by decide +kernel
theorem dX1_takesGloom_56 : decode cX1_takesGloom 56 = .ok (.invokevirtual 61, 3) := by decide +kernel
theorem dX1_takesGloom_59 : decode cX1_takesGloom 59 = .ok (.ireturn, 1) := by decide +kernel
theorem dX1_takesKind_0 : decode cX1_takesKind 0 = .ok (.iload_n 1, 1) := by decide +kernel
theorem dX1_takesKind_1 : decode cX1_takesKind 1 = .ok (.tableswitch 59 115 119 #[43, 35, 59, 59, 51], 35) := by decide +kernel
theorem dX1_takesKind_36 : decode cX1_takesKind 36 = .ok (.aload_n 0, 1) := by decide +kernel
theorem dX1_takesKind_37 : decode cX1_takesKind 37 = .ok (.iconst 0, 1) := by decide +kernel
theorem dX1_takesKind_38 : decode cX1_takesKind 38 = .ok (.putfield 32, 3) := by decide +kernel
theorem dX1_takesKind_41 : decode cX1_takesKind 41 = .ok (.goto 21, 3) := by decide +kernel
theorem dX1_takesKind_44 : decode cX1_takesKind 44 = .ok (.aload_n 0, 1) := by decide +kernel
theorem dX1_takesKind_45 : decode cX1_takesKind 45 = .ok (.iconst 1, 1) := by decide +kernel
theorem dX1_takesKind_46 : decode cX1_takesKind 46 = .ok (.putfield 32, 3) := by decide +kernel
theorem dX1_takesKind_49 : decode cX1_takesKind 49 = .ok (.goto 13, 3) := by decide +kernel
theorem dX1_takesKind_52 : decode cX1_takesKind 52 = .ok (.aload_n 0, 1) := by decide +kernel
theorem dX1_takesKind_53 : decode cX1_takesKind 53 = .ok (.iconst 2, 1) := by decide +kernel
theorem dX1_takesKind_54 : decode cX1_takesKind 54 = .ok (.putfield 32, 3) := by decide +kernel
theorem dX1_takesKind_57 : decode cX1_takesKind 57 = .ok (.goto 5, 3) := by decide +kernel
theorem dX1_takesKind_60 : decode cX1_takesKind 60 = .ok (.iconst 0, 1) := by decide +kernel
theorem dX1_takesKind_61 : decode cX1_takesKind 61 = .ok (.ireturn, 1) := by decide +kernel
theorem dX1_takesKind_62 : decode cX1_takesKind 62 = .ok (.aload_n 0, 1) := by decide +kernel
theorem dX1_takesKind_63 : decode cX1_takesKind 63 = .ok (.iconst 1, 1) := by decide +kernel
theorem dX1_takesKind_64 : decode cX1_takesKind 64 = .ok (.iconst 4, 1) := by decide +kernel
theorem dX1_takesKind_65 : decode cX1_takesKind 65 = .ok (.invokevirtual 61, 3) := by decide +kernel
theorem dX1_takesKind_68 : decode cX1_takesKind 68 = .ok (.ireturn, 1) := by decide +kernel
theorem dX1_takesTens_0 : decode cX1_takesTens 0 = .ok (.aload_n 0, 1) := by decide +kernel
theorem dX1_takesTens_1 : decode cX1_takesTens 1 = .ok (.bipush 10, 2) := by decide +kernel
theorem dX1_takesTens_3 : decode cX1_takesTens 3 = .ok (.iload_n 1, 1) := by decide +kernel
theorem dX1_takesTens_4 : decode cX1_takesTens 4 = .ok (.bipush 48, 2) := by decide +kernel
theorem dX1_takesTens_6 : decode cX1_takesTens 6 = .ok (.isub, 1) := by decide +kernel
theorem dX1_takesTens_7 : decode cX1_takesTens 7 = .ok (.imul, 1) := by decide +kernel
theorem dX1_takesTens_8 : decode cX1_takesTens 8 = .ok (.putfield 35, 3) := by decide +kernel
theorem dX1_takesTens_11 : decode cX1_takesTens 11 = .ok (.aload_n 0, 1) := by decide +kernel
theorem dX1_takesTens_12 : decode cX1_takesTens 12 = .ok (.iload_n 1, 1) := by decide +kernel
theorem dX1_takesTens_13 : decode cX1_takesTens 13 = .ok (.invokestatic 86, 3) := by decide +kernel
theorem dX1_takesTens_16 : decode cX1_takesTens 16 = .ok (.iconst 5, 1) := by decide +kernel
theorem dX1_takesTens_17 : decode cX1_takesTens 17 = .ok (.invokevirtual 61, 3) := by decide +kernel
theorem dX1_takesTens_20 : decode cX1_takesTens 20 = .ok (.ireturn, 1) := by decide +kernel
theorem dX1_takesOnes_0 : decode cX1_takesOnes 0 = .ok (.aload_n 0, 1) := by decide +kernel
theorem dX1_takesOnes_1 : decode cX1_takesOnes 1 = .ok (.dup, 1) := by decide +kernel
theorem dX1_takesOnes_2 : decode cX1_takesOnes 2 = .ok (.getfield 35, 3) := by decide +kernel
theorem dX1_takesOnes_5 : decode cX1_takesOnes 5 = .ok (.iload_n 1, 1) := by decide +kernel
theorem dX1_takesOnes_6 : decode cX1_takesOnes 6 = .ok (.bipush 48, 2) := by decide +kernel
theorem dX1_takesOnes_8 : decode cX1_takesOnes 8 = .ok (.isub, 1) := by decide +kernel
theorem dX1_takesOnes_9 : decode cX1_takesOnes 9 = .ok (.iadd, 1) := by decide +kernel
theorem dX1_takesOnes_10 : decode cX1_takesOnes 10 = .ok (.putfield 35, 3) := by decide +kernel
theorem dX1_takesOnes_13 : decode cX1_takesOnes 13 = .ok (.aload_n 0, 1) := by decide +kernel
theorem dX1_takesOnes_14 : decode cX1_takesOnes 14 = .ok (.iload_n 1, 1) := by decide +kernel
theorem dX1_takesOnes_15 : decode cX1_takesOnes 15 = .ok (.invokestatic 86, 3) := by decide +kernel
theorem dX1_takesOnes_18 : decode cX1_takesOnes 18 = .ok (.bipush 6, 2) := by decide +kernel
theorem dX1_takesOnes_20 : decode cX1_takesOnes 20 = .ok (.invokevirtual 61, 3) := by decide +kernel
theorem dX1_takesOnes_23 : decode cX1_takesOnes 23 = .ok (.ireturn, 1) := by decide +kernel
theorem dX1_takesMind_0 : decode cX1_takesMind 0 = .ok (.iload_n 1, 1) := by decide +kernel
theorem dX1_takesMind_1 : decode cX1_takesMind 1 = .ok (.invokestatic 86, 3) := by decide +kernel
theorem dX1_takesMind_4 : decode cX1_takesMind 4 = .ok (.ifCond .eq 14, 3) := by decide +kernel
theorem dX1_takesMind_7 : decode cX1_takesMind 7 = .ok (.aload_n 0, 1) := by decide +kernel
theorem dX1_takesMind_8 : decode cX1_takesMind 8 = .ok (.getfield 12, 3) := by decide +kernel
theorem dX1_takesMind_11 : decode cX1_takesMind 11 = .ok (.getfield 50, 3) := by decide +kernel
theorem dX1_takesMind_14 : decode cX1_takesMind 14 = .ok (.iconst 5, 1) := by decide +kernel
theorem dX1_takesMind_15 : decode cX1_takesMind 15 = .ok (.if_icmp .lt 5, 3) := by decide +kernel
theorem dX1_takesMind_18 : decode cX1_takesMind 18 = .ok (.iconst 0, 1) := by decide +kernel
theorem dX1_takesMind_19 : decode cX1_takesMind 19 = .ok (.ireturn, 1) := by decide +kernel
theorem dX1_takesMind_20 : decode cX1_takesMind 20 = .ok (.aload_n 0, 1) := by decide +kernel
theorem dX1_takesMind_21 : decode cX1_takesMind 21 = .ok (.getfield 12, 3) := by decide +kernel
theorem dX1_takesMind_24 : decode cX1_takesMind 24 = .ok (.getfield 50, 3) := by decide +kernel
theorem dX1_takesMind_27 : decode cX1_takesMind 27 = .ok (.istore_n 2, 1) := by decide +kernel
theorem dX1_takesMind_28 : decode cX1_takesMind 28 = .ok (.aload_n 0, 1) := by decide +kernel
theorem dX1_takesMind_29 : decode cX1_takesMind 29 = .ok (.getfield 18, 3) := by decide +kernel
theorem dX1_takesMind_32 : decode cX1_takesMind 32 = .ok (.iload_n 2, 1) := by decide +kernel
theorem dX1_takesMind_33 : decode cX1_takesMind 33 = .ok (.aload_n 0, 1) := by decide +kernel
theorem dX1_takesMind_34 : decode cX1_takesMind 34 = .ok (.getfield 32, 3) := by decide +kernel
theorem dX1_takesMind_37 : decode cX1_takesMind 37 = .ok (.iastore, 1) := by decide +kernel
theorem dX1_takesMind_38 : decode cX1_takesMind 38 = .ok (.aload_n 0, 1) := by decide +kernel
theorem dX1_takesMind_39 : decode cX1_takesMind 39 = .ok (.getfield 22, 3) := by decide +kernel
theorem dX1_takesMind_42 : decode cX1_takesMind 42 = .ok (.iload_n 2, 1) := by decide +kernel
theorem dX1_takesMind_43 : decode cX1_takesMind 43 = .ok (.aload_n 0, 1) := by decide +kernel
theorem dX1_takesMind_44 : decode cX1_takesMind 44 = .ok (.getfield 35, 3) := by decide +kernel
theorem dX1_takesMind_47 : decode cX1_takesMind 47 = .ok (.iastore, 1) := by decide +kernel
theorem dX1_takesMind_48 : decode cX1_takesMind 48 = .ok (.aload_n 0, 1) := by decide +kernel
theorem dX1_takesMind_49 : decode cX1_takesMind 49 = .ok (.getfield 25, 3) := by decide +kernel
theorem dX1_takesMind_52 : decode cX1_takesMind 52 = .ok (.iload_n 2, 1) := by decide +kernel
theorem dX1_takesMind_53 : decode cX1_takesMind 53 = .ok (.iload_n 1, 1) := by decide +kernel
theorem dX1_takesMind_54 : decode cX1_takesMind 54 = .ok (.bipush 48, 2) := by decide +kernel
theorem dX1_takesMind_56 : decode cX1_takesMind 56 = .ok (.isub, 1) := by decide +kernel
theorem dX1_takesMind_57 : decode cX1_takesMind 57 = .ok (.iastore, 1) := by decide +kernel
theorem dX1_takesMind_58 : decode cX1_takesMind 58 = .ok (.aload_n 0, 1) := by decide +kernel
theorem dX1_takesMind_59 : decode cX1_takesMind 59 = .ok (.getfield 12, 3) := by decide +kernel
theorem dX1_takesMind_62 : decode cX1_takesMind 62 = .ok (.dup, 1) := by decide +kernel
theorem dX1_takesMind_63 : decode cX1_takesMind 63 = .ok (.getfield 50, 3) := by decide +kernel
theorem dX1_takesMind_66 : decode cX1_takesMind 66 = .ok (.iconst 1, 1) := by decide +kernel
theorem dX1_takesMind_67 : decode cX1_takesMind 67 = .ok (.iadd, 1) := by decide +kernel
theorem dX1_takesMind_68 : decode cX1_takesMind 68 = .ok (.putfield 50, 3) := by decide +kernel
theorem dX1_takesMind_71 : decode cX1_takesMind 71 = .ok (.aload_n 0, 1) := by decide +kernel
theorem dX1_takesMind_72 : decode cX1_takesMind 72 = .ok (.iconst 1, 1) := by decide +kernel
theorem dX1_takesMind_73 : decode cX1_takesMind 73 = .ok (.bipush 7, 2) := by decide +kernel
theorem dX1_takesMind_75 : decode cX1_takesMind 75 = .ok (.invokevirtual 61, 3) := by decide +kernel
theorem dX1_takesMind_78 : decode cX1_takesMind 78 = .ok (.ireturn, 1) := by decide +kernel
theorem dX1_takesBehindTaker_0 : decode cX1_takesBehindTaker 0 = .ok (.iload_n 1, 1) := by decide +kernel
theorem dX1_takesBehindTaker_1 : decode cX1_takesBehindTaker 1 = .ok (.bipush 47, 2) := by decide +kernel
theorem dX1_takesBehindTaker_3 : decode cX1_takesBehindTaker 3 = .ok (.if_icmp .ne 11, 3) := by decide +kernel
theorem dX1_takesBehindTaker_6 : decode cX1_takesBehindTaker 6 = .ok (.aload_n 0, 1) := by decide +kernel
theorem dX1_takesBehindTaker_7 : decode cX1_takesBehindTaker 7 = .ok (.iconst 1, 1) := by decide +kernel
theorem dX1_takesBehindTaker_8 : decode cX1_takesBehindTaker 8 = .ok (.bipush 8, 2) := by decide +kernel
theorem dX1_takesBehindTaker_10 : decode cX1_takesBehindTaker 10 = .ok (.invokevirtual 61, 3) := by decide +kernel
theorem dX1_takesBehindTaker_13 : decode cX1_takesBehindTaker 13 = .ok (.ireturn, 1) := by decide +kernel
theorem dX1_takesBehindTaker_14 : decode cX1_takesBehindTaker 14 = .ok (.aload_n 0, 1) := by decide +kernel
theorem dX1_takesBehindTaker_15 : decode cX1_takesBehindTaker 15 = .ok (.iload_n 1, 1) := by decide +kernel
theorem dX1_takesBehindTaker_16 : decode cX1_takesBehindTaker 16 = .ok (.bipush 59, 2) := by decide +kernel
theorem dX1_takesBehindTaker_18 : decode cX1_takesBehindTaker 18 = .ok (.if_icmp .ne 18, 3) := by decide +kernel
theorem dX1_takesBehindTaker_21 : decode cX1_takesBehindTaker 21 = .ok (.aload_n 0, 1) := by decide +kernel
theorem dX1_takesBehindTaker_22 : decode cX1_takesBehindTaker 22 = .ok (.getfield 12, 3) := by decide +kernel
theorem dX1_takesBehindTaker_25 : decode cX1_takesBehindTaker 25 = .ok (.getfield 50, 3) := by decide +kernel
theorem dX1_takesBehindTaker_28 : decode cX1_takesBehindTaker 28 = .ok (.iconst 5, 1) := by decide +kernel
theorem dX1_takesBehindTaker_29 : decode cX1_takesBehindTaker 29 = .ok (.if_icmp .ge 7, 3) := by decide +kernel
theorem dX1_takesBehindTaker_32 : decode cX1_takesBehindTaker 32 = .ok (.iconst 1, 1) := by decide +kernel
theorem dX1_takesBehindTaker_33 : decode cX1_takesBehindTaker 33 = .ok (.goto 4, 3) := by decide +kernel
theorem dX1_takesBehindTaker_36 : decode cX1_takesBehindTaker 36 = .ok (.iconst 0, 1) := by decide +kernel
theorem dX1_takesBehindTaker_37 : decode cX1_takesBehindTaker 37 = .ok (.iconst 3, 1) := by decide +kernel
theorem dX1_takesBehindTaker_38 : decode cX1_takesBehindTaker 38 = .ok (.invokevirtual 61, 3) := by decide +kernel
theorem dX1_takesBehindTaker_41 : decode cX1_takesBehindTaker 41 = .ok (.ireturn, 1) := by decide +kernel
theorem dX1_takesGood_0 : decode cX1_takesGood 0 = .ok (.iload_n 1, 1) := by decide +kernel
theorem dX1_takesGood_1 : decode cX1_takesGood 1 = .ok (.invokestatic 86, 3) := by decide +kernel
theorem dX1_takesGood_4 : decode cX1_takesGood 4 = .ok (.ifCond .eq 20, 3) := by decide +kernel
theorem dX1_takesGood_7 : decode cX1_takesGood 7 = .ok (.iload_n 1, 1) := by decide +kernel
theorem dX1_takesGood_8 : decode cX1_takesGood 8 = .ok (.bipush 48, 2) := by decide +kernel
theorem dX1_takesGood_10 : decode cX1_takesGood 10 = .ok (.if_icmp .eq 14, 3) := by decide +kernel
theorem dX1_takesGood_13 : decode cX1_takesGood 13 = .ok (.aload_n 0, 1) := by decide +kernel
theorem dX1_takesGood_14 : decode cX1_takesGood 14 = .ok (.getfield 12, 3) := by decide +kernel
theorem dX1_takesGood_17 : decode cX1_takesGood 17 = .ok (.getfield 95, 3) := by decide +kernel
theorem dX1_takesGood_20 : decode cX1_takesGood 20 = .ok (.iconst 5, 1) := by decide +kernel
theorem dX1_takesGood_21 : decode cX1_takesGood 21 = .ok (.if_icmp .lt 5, 3) := by decide +kernel
theorem dX1_takesGood_24 : decode cX1_takesGood 24 = .ok (.iconst 0, 1) := by decide +kernel
theorem dX1_takesGood_25 : decode cX1_takesGood 25 = .ok (.ireturn, 1) := by decide +kernel
theorem dX1_takesGood_26 : decode cX1_takesGood 26 = .ok (.aload_n 0, 1) := by decide +kernel
theorem dX1_takesGood_27 : decode cX1_takesGood 27 = .ok (.getfield 12, 3) := by decide +kernel
theorem dX1_takesGood_30 : decode cX1_takesGood 30 = .ok (.getfield 98, 3) := by decide +kernel
theorem dX1_takesGood_33 : decode cX1_takesGood 33 = .ok (.aload_n 0, 1) := by decide +kernel
theorem dX1_takesGood_34 : decode cX1_takesGood 34 = .ok (.getfield 12, 3) := by decide +kernel
theorem dX1_takesGood_37 : decode cX1_takesGood 37 = .ok (.getfield 95, 3) := by decide +kernel
theorem dX1_takesGood_40 : decode cX1_takesGood 40 = .ok (.iload_n 1, 1) := by decide +kernel
theorem dX1_takesGood_41 : decode cX1_takesGood 41 = .ok (.bipush 48, 2) := by decide +kernel
theorem dX1_takesGood_43 : decode cX1_takesGood 43 = .ok (.isub, 1) := by decide +kernel
theorem dX1_takesGood_44 : decode cX1_takesGood 44 = .ok (.iastore, 1) := by decide +kernel
theorem dX1_takesGood_45 : decode cX1_takesGood 45 = .ok (.aload_n 0, 1) := by decide +kernel
theorem dX1_takesGood_46 : decode cX1_takesGood 46 = .ok (.getfield 12, 3) := by decide +kernel
theorem dX1_takesGood_49 : decode cX1_takesGood 49 = .ok (.dup, 1) := by decide +kernel
theorem dX1_takesGood_50 : decode cX1_takesGood 50 = .ok (.getfield 95, 3) := by decide +kernel
theorem dX1_takesGood_53 : decode cX1_takesGood 53 = .ok (.iconst 1, 1) := by decide +kernel
theorem dX1_takesGood_54 : decode cX1_takesGood 54 = .ok (.iadd, 1) := by decide +kernel
theorem dX1_takesGood_55 : decode cX1_takesGood 55 = .ok (.putfield 95, 3) := by decide +kernel
theorem dX1_takesGood_58 : decode cX1_takesGood 58 = .ok (.iconst 1, 1) := by decide +kernel
theorem dX1_takesGood_59 : decode cX1_takesGood 59 = .ok (.ireturn, 1) := by decide +kernel
theorem dX1_isDigit_0 : decode cX1_isDigit 0 = .ok (.iload_n 0, 1) := by decide +kernel
theorem dX1_isDigit_1 : decode cX1_isDigit 1 = .ok (.bipush 48, 2) := by decide +kernel
theorem dX1_isDigit_3 : decode cX1_isDigit 3 = .ok (.if_icmp .lt 13, 3) := by decide +kernel
theorem dX1_isDigit_6 : decode cX1_isDigit 6 = .ok (.iload_n 0, 1) := by decide +kernel
theorem dX1_isDigit_7 : decode cX1_isDigit 7 = .ok (.bipush 57, 2) := by decide +kernel
theorem dX1_isDigit_9 : decode cX1_isDigit 9 = .ok (.if_icmp .gt 7, 3) := by decide +kernel
theorem dX1_isDigit_12 : decode cX1_isDigit 12 = .ok (.iconst 1, 1) := by decide +kernel
theorem dX1_isDigit_13 : decode cX1_isDigit 13 = .ok (.goto 4, 3) := by decide +kernel
theorem dX1_isDigit_16 : decode cX1_isDigit 16 = .ok (.iconst 0, 1) := by decide +kernel
theorem dX1_isDigit_17 : decode cX1_isDigit 17 = .ok (.ireturn, 1) := by decide +kernel
theorem dX2_init_0 : decode cX2_init 0 = .ok (.aload_n 0, 1) := by decide +kernel
theorem dX2_init_1 : decode cX2_init 1 = .ok (.invokespecial 3, 3) := by decide +kernel
theorem dX2_init_4 : decode cX2_init 4 = .ok (.aload_n 0, 1) := by decide +kernel
theorem dX2_init_5 : decode cX2_init 5 = .ok (.bipush 8, 2) := by decide +kernel
theorem dX2_init_7 : decode cX2_init 7 = .ok (.newarray .int, 2) := by decide +kernel
theorem dX2_init_9 : decode cX2_init 9 = .ok (.putfield 9, 3) := by decide +kernel
theorem dX2_init_12 : decode cX2_init 12 = .ok (.aload_n 0, 1) := by decide +kernel
theorem dX2_init_13 : decode cX2_init 13 = .ok (.bipush 8, 2) := by decide +kernel
theorem dX2_init_15 : decode cX2_init 15 = .ok (.newarray .int, 2) := by decide +kernel
theorem dX2_init_17 : decode cX2_init 17 = .ok (.putfield 15, 3) := by decide +kernel
theorem dX2_init_20 : decode cX2_init 20 = .ok (.aload_n 0, 1) := by decide +kernel
theorem dX2_init_21 : decode cX2_init 21 = .ok (.bipush 8, 2) := by decide +kernel
theorem dX2_init_23 : decode cX2_init 23 = .ok (.newarray .int, 2) := by decide +kernel
theorem dX2_init_25 : decode cX2_init 25 = .ok (.putfield 18, 3) := by decide +kernel
theorem dX2_init_28 : decode cX2_init 28 = .ok (.aload_n 0, 1) := by decide +kernel
theorem dX2_init_29 : decode cX2_init 29 = .ok (.iconst 0, 1) := by decide +kernel
theorem dX2_init_30 : decode cX2_init 30 = .ok (.putfield 21, 3) := by decide +kernel
theorem dX2_init_33 : decode cX2_init 33 = .ok (.return_, 1) := by decide +kernel
theorem dX2_add_0 : decode cX2_add 0 = .ok (.aload_n 0, 1) := by decide +kernel
theorem dX2_add_1 : decode cX2_add 1 = .ok (.getfield 21, 3) := by decide +kernel
theorem dX2_add_4 : decode cX2_add 4 = .ok (.bipush 8, 2) := by decide +kernel
theorem dX2_add_6 : decode cX2_add 6 = .ok (.if_icmp .lt 6, 3) := by decide +kernel
theorem dX2_add_9 : decode cX2_add 9 = .ok (.bipush (-4), 2) := by decide +kernel
theorem dX2_add_11 : decode cX2_add 11 = .ok (.ireturn, 1) := by decide +kernel
theorem dX2_add_12 : decode cX2_add 12 = .ok (.aload_n 0, 1) := by decide +kernel
theorem dX2_add_13 : decode cX2_add 13 = .ok (.getfield 9, 3) := by decide +kernel
theorem dX2_add_16 : decode cX2_add 16 = .ok (.aload_n 0, 1) := by decide +kernel
theorem dX2_add_17 : decode cX2_add 17 = .ok (.getfield 21, 3) := by decide +kernel
theorem dX2_add_20 : decode cX2_add 20 = .ok (.iload_n 1, 1) := by decide +kernel
theorem dX2_add_21 : decode cX2_add 21 = .ok (.iastore, 1) := by decide +kernel
theorem dX2_add_22 : decode cX2_add 22 = .ok (.aload_n 0, 1) := by decide +kernel
theorem dX2_add_23 : decode cX2_add 23 = .ok (.getfield 15, 3) := by decide +kernel
theorem dX2_add_26 : decode cX2_add 26 = .ok (.aload_n 0, 1) := by decide +kernel
theorem dX2_add_27 : decode cX2_add 27 = .ok (.getfield 21, 3) := by decide +kernel
theorem dX2_add_30 : decode cX2_add 30 = .ok (.iload_n 2, 1) := by decide +kernel
theorem dX2_add_31 : decode cX2_add 31 = .ok (.iastore, 1) := by decide +kernel
theorem dX2_add_32 : decode cX2_add 32 = .ok (.aload_n 0, 1) := by decide +kernel
theorem dX2_add_33 : decode cX2_add 33 = .ok (.getfield 18, 3) := by decide +kernel
theorem dX2_add_36 : decode cX2_add 36 = .ok (.aload_n 0, 1) := by decide +kernel
theorem dX2_add_37 : decode cX2_add 37 = .ok (.getfield 21, 3) := by decide +kernel
theorem dX2_add_40 : decode cX2_add 40 = .ok (.iload_n 3, 1) := by decide +kernel
theorem dX2_add_41 : decode cX2_add 41 = .ok (.iastore, 1) := by decide +kernel
theorem dX2_add_42 : decode cX2_add 42 = .ok (.aload_n 0, 1) := by decide +kernel
theorem dX2_add_43 : decode cX2_add 43 = .ok (.dup, 1) := by decide +kernel
theorem dX2_add_44 : decode cX2_add 44 = .ok (.getfield 21, 3) := by decide +kernel
theorem dX2_add_47 : decode cX2_add 47 = .ok (.iconst 1, 1) := by decide +kernel
theorem dX2_add_48 : decode cX2_add 48 = .ok (.iadd, 1) := by decide +kernel
theorem dX2_add_49 : decode cX2_add 49 = .ok (.putfield 21, 3) := by decide +kernel
theorem dX2_add_52 : decode cX2_add 52 = .ok (.aload_n 0, 1) := by decide +kernel
theorem dX2_add_53 : decode cX2_add 53 = .ok (.getfield 21, 3) := by decide +kernel
theorem dX2_add_56 : decode cX2_add 56 = .ok (.iconst 1, 1) := by decide +kernel
theorem dX2_add_57 : decode cX2_add 57 = .ok (.isub, 1) := by decide +kernel
theorem dX2_add_58 : decode cX2_add 58 = .ok (.ireturn, 1) := by decide +kernel
theorem dX2_allAreSo_0 : decode cX2_allAreSo 0 = .ok (.iconst 0, 1) := by decide +kernel
theorem dX2_allAreSo_1 : decode cX2_allAreSo 1 = .ok (.istore_n 2, 1) := by decide +kernel
theorem dX2_allAreSo_2 : decode cX2_allAreSo 2 = .ok (.iload_n 2, 1) := by decide +kernel
theorem dX2_allAreSo_3 : decode cX2_allAreSo 3 = .ok (.aload_n 0, 1) := by decide +kernel
theorem dX2_allAreSo_4 : decode cX2_allAreSo 4 = .ok (.getfield 21, 3) := by decide +kernel
theorem dX2_allAreSo_7 : decode cX2_allAreSo 7 = .ok (.if_icmp .ge 46, 3) := by decide +kernel
theorem dX2_allAreSo_10 : decode cX2_allAreSo 10 = .ok (.aload_n 1, 1) := by decide +kernel
theorem dX2_allAreSo_11 : decode cX2_allAreSo 11 = .ok (.aload_n 0, 1) := by decide +kernel
theorem dX2_allAreSo_12 : decode cX2_allAreSo 12 = .ok (.getfield 9, 3) := by decide +kernel
theorem dX2_allAreSo_15 : decode cX2_allAreSo 15 = .ok (.iload_n 2, 1) := by decide +kernel
theorem dX2_allAreSo_16 : decode cX2_allAreSo 16 = .ok (.iaload, 1) := by decide +kernel
theorem dX2_allAreSo_17 : decode cX2_allAreSo 17 = .ok (.invokevirtual 25, 3) := by decide +kernel
theorem dX2_allAreSo_20 : decode cX2_allAreSo 20 = .ok (.astore_n 3, 1) := by decide +kernel
theorem dX2_allAreSo_21 : decode cX2_allAreSo 21 = .ok (.aload_n 3, 1) := by decide +kernel
theorem dX2_allAreSo_22 : decode cX2_allAreSo 22 = .ok (.ifnull 23, 3) := by decide +kernel
theorem dX2_allAreSo_25 : decode cX2_allAreSo 25 = .ok (.aload_n 1, 1) := by decide +kernel
theorem dX2_allAreSo_26 : decode cX2_allAreSo 26 = .ok (.aload_n 3, 1) := by decide +kernel
theorem dX2_allAreSo_27 : decode cX2_allAreSo 27 = .ok (.aload_n 0, 1) := by decide +kernel
theorem dX2_allAreSo_28 : decode cX2_allAreSo 28 = .ok (.getfield 15, 3) := by decide +kernel
theorem dX2_allAreSo_31 : decode cX2_allAreSo 31 = .ok (.iload_n 2, 1) := by decide +kernel
theorem dX2_allAreSo_32 : decode cX2_allAreSo 32 = .ok (.iaload, 1) := by decide +kernel
theorem dX2_allAreSo_33 : decode cX2_allAreSo 33 = .ok (.invokevirtual 31, 3) := by decide +kernel
theorem dX2_allAreSo_36 : decode cX2_allAreSo 36 = .ok (.aload_n 0, 1) := by decide +kernel
theorem dX2_allAreSo_37 : decode cX2_allAreSo 37 = .ok (.getfield 18, 3) := by decide +kernel
theorem dX2_allAreSo_40 : decode cX2_allAreSo 40 = .ok (.iload_n 2, 1) := by decide +kernel
theorem dX2_allAreSo_41 : decode cX2_allAreSo 41 = .ok (.iaload, 1) := by decide +kernel
theorem dX2_allAreSo_42 : decode cX2_allAreSo 42 = .ok (.if_icmp .eq 5, 3) := by decide +kernel
theorem dX2_allAreSo_45 : decode cX2_allAreSo 45 = .ok (.iconst 0, 1) := by decide +kernel
theorem dX2_allAreSo_46 : decode cX2_allAreSo 46 = .ok (.ireturn, 1) := by decide +kernel
theorem dX2_allAreSo_47 : decode cX2_allAreSo 47 = .ok (.iinc 2 1, 3) := by decide +kernel
theorem dX2_allAreSo_50 : decode cX2_allAreSo 50 = .ok (.goto (-48), 3) := by decide +kernel
theorem dX2_allAreSo_53 : decode cX2_allAreSo 53 = .ok (.iconst 1, 1) := by decide +kernel
theorem dX2_allAreSo_54 : decode cX2_allAreSo 54 = .ok (.ireturn, 1) := by decide +kernel
theorem dX3_init_0 : decode cX3_init 0 = .ok (.aload_n 0, 1) := by decide +kernel
theorem dX3_init_1 : decode cX3_init 1 = .ok (.invokespecial 3, 3) := by decide +kernel
theorem dX3_init_4 : decode cX3_init 4 = .ok (.aload_n 0, 1) := by decide +kernel
theorem dX3_init_5 : decode cX3_init 5 = .ok (.iload_n 1, 1) := by decide +kernel
theorem dX3_init_6 : decode cX3_init 6 = .ok (.putfield 9, 3) := by decide +kernel
theorem dX3_init_9 : decode cX3_init 9 = .ok (.aload_n 0, 1) := by decide +kernel
theorem dX3_init_10 : decode cX3_init 10 = .ok (.iconst 0, 1) := by decide +kernel
theorem dX3_init_11 : decode cX3_init 11 = .ok (.iload_n 2, 1) := by decide +kernel
theorem dX3_init_12 : decode cX3_init 12 = .ok (.invokestatic 15, 3) := by decide +kernel
theorem dX3_init_15 : decode cX3_init 15 = .ok (.newarray .int, 2) := by decide +kernel
theorem dX3_init_17 : decode cX3_init 17 = .ok (.putfield 21, 3) := by decide +kernel
theorem dX3_init_20 : decode cX3_init 20 = .ok (.return_, 1) := by decide +kernel
theorem dX3_hasCells_0 : decode cX3_hasCells 0 = .ok (.iload_n 1, 1) := by decide +kernel
theorem dX3_hasCells_1 : decode cX3_hasCells 1 = .ok (.ifCond .lt 31, 3) := by decide +kernel
theorem dX3_hasCells_4 : decode cX3_hasCells 4 = .ok (.iload_n 1, 1) := by decide +kernel
theorem dX3_hasCells_5 : decode cX3_hasCells 5 = .ok (.aload_n 0, 1) := by decide +kernel
theorem dX3_hasCells_6 : decode cX3_hasCells 6 = .ok (.getfield 21, 3) := by decide +kernel
theorem dX3_hasCells_9 : decode cX3_hasCells 9 = .ok (.arraylength, 1) := by decide +kernel
theorem dX3_hasCells_10 : decode cX3_hasCells 10 = .ok (.if_icmp .gt 22, 3) := by decide +kernel
theorem dX3_hasCells_13 : decode cX3_hasCells 13 = .ok (.iload_n 2, 1) := by decide +kernel
theorem dX3_hasCells_14 : decode cX3_hasCells 14 = .ok (.ifCond .lt 18, 3) := by decide +kernel
theorem dX3_hasCells_17 : decode cX3_hasCells 17 = .ok (.iload_n 2, 1) := by decide +kernel
theorem dX3_hasCells_18 : decode cX3_hasCells 18 = .ok (.aload_n 0, 1) := by decide +kernel
theorem dX3_hasCells_19 : decode cX3_hasCells 19 = .ok (.getfield 21, 3) := by decide +kernel
theorem dX3_hasCells_22 : decode cX3_hasCells 22 = .ok (.arraylength, 1) := by decide +kernel
theorem dX3_hasCells_23 : decode cX3_hasCells 23 = .ok (.iload_n 1, 1) := by decide +kernel
theorem dX3_hasCells_24 : decode cX3_hasCells 24 = .ok (.isub, 1) := by decide +kernel
theorem dX3_hasCells_25 : decode cX3_hasCells 25 = .ok (.if_icmp .gt 7, 3) := by decide +kernel
theorem dX3_hasCells_28 : decode cX3_hasCells 28 = .ok (.iconst 1, 1) := by decide +kernel
theorem dX3_hasCells_29 : decode cX3_hasCells 29 = .ok (.goto 4, 3) := by decide +kernel
theorem dX3_hasCells_32 : decode cX3_hasCells 32 = .ok (.iconst 0, 1) := by decide +kernel
theorem dX3_hasCells_33 : decode cX3_hasCells 33 = .ok (.ireturn, 1) := by decide +kernel
theorem dX3_cut_0 : decode cX3_cut 0 = .ok (.aload_n 0, 1) := by decide +kernel
theorem dX3_cut_1 : decode cX3_cut 1 = .ok (.getfield 9, 3) := by decide +kernel
theorem dX3_cut_4 : decode cX3_cut 4 = .ok (.lookupswitch 34 #[(0, 28), (1, 31)], 28) := by decide +kernel
theorem dX3_cut_32 : decode cX3_cut 32 = .ok (.iload_n 1, 1) := by decide +kernel
theorem dX3_cut_33 : decode cX3_cut 33 = .ok (.i2b, 1) := by decide +kernel
theorem dX3_cut_34 : decode cX3_cut 34 = .ok (.ireturn, 1) := by decide +kernel
theorem dX3_cut_35 : decode cX3_cut 35 = .ok (.iload_n 1, 1) := by decide +kernel
theorem dX3_cut_36 : decode cX3_cut 36 = .ok (.i2s, 1) := by decide +kernel
theorem dX3_cut_37 : decode cX3_cut 37 = .ok (.ireturn, 1) := by decide +kernel
theorem dX3_cut_38 : decode cX3_cut 38 = .ok (.iload_n 1, 1) := by decide +kernel
theorem dX3_cut_39 : decode cX3_cut 39 = .ok (.ireturn, 1) := by decide +kernel
theorem dX4_init_0 : decode cX4_init 0 = .ok (.aload_n 0, 1) := by decide +kernel
theorem dX4_init_1 : decode cX4_init 1 = .ok (.invokespecial 3, 3) := by decide +kernel
theorem dX4_init_4 : decode cX4_init 4 = .ok (.aload_n 0, 1) := by decide +kernel
theorem dX4_init_5 : decode cX4_init 5 = .ok (.bipush 6, 2) := by decide +kernel
theorem dX4_init_7 : decode cX4_init 7 = .ok (.bipush 32, 2) := by decide +kernel
theorem dX4_init_9 : decode cX4_init 9 = .ok (.multianewarray 11 2, 4) := by decide +kernel
theorem dX4_init_13 : decode cX4_init 13 = .ok (.putfield 13, 3) := by decide +kernel
theorem dX4_init_16 : decode cX4_init 16 = .ok (.aload_n 0, 1) := by decide +kernel
theorem dX4_init_17 : decode cX4_init 17 = .ok (.iconst 5, 1) := by decide +kernel
theorem dX4_init_18 : decode cX4_init 18 = .ok (.newarray .int, 2) := by decide +kernel
theorem dX4_init_20 : decode cX4_init 20 = .ok (.putfield 16, 3) := by decide +kernel
theorem dX4_init_23 : decode cX4_init 23 = .ok (.return_, 1) := by decide +kernel
theorem dX4_weigh_0 : decode cX4_weigh 0 = .ok (.aload_n 1, 1) := by decide +kernel
theorem dX4_weigh_1 : decode cX4_weigh 1 = .ok (.getfield 20, 3) := by decide +kernel
theorem dX4_weigh_4 : decode cX4_weigh 4 = .ok (.istore_n 3, 1) := by decide +kernel
theorem dX4_weigh_5 : decode cX4_weigh 5 = .ok (.iconst 0, 1) := by decide +kernel
theorem dX4_weigh_6 : decode cX4_weigh 6 = .ok (.istore 4, 2) := by decide +kernel
theorem dX4_weigh_8 : decode cX4_weigh 8 = .ok (.iload 4, 2) := by decide +kernel
theorem dX4_weigh_10 : decode cX4_weigh 10 = .ok (.bipush 32, 2) := by decide +kernel
theorem dX4_weigh_12 : decode cX4_weigh 12 = .ok (.if_icmp .ge 19, 3) := by decide +kernel
theorem dX4_weigh_15 : decode cX4_weigh 15 = .ok (.aload_n 0, 1) := by decide +kernel
theorem dX4_weigh_16 : decode cX4_weigh 16 = .ok (.getfield 13, 3) := by decide +kernel
theorem dX4_weigh_19 : decode cX4_weigh 19 = .ok (.iload_n 3, 1) := by decide +kernel
theorem dX4_weigh_20 : decode cX4_weigh 20 = .ok (.aaload, 1) := by decide +kernel
theorem dX4_weigh_21 : decode cX4_weigh 21 = .ok (.iload 4, 2) := by decide +kernel
theorem dX4_weigh_23 : decode cX4_weigh 23 = .ok (.iconst 0, 1) := by decide +kernel
theorem dX4_weigh_24 : decode cX4_weigh 24 = .ok (.iastore, 1) := by decide +kernel
theorem dX4_weigh_25 : decode cX4_weigh 25 = .ok (.iinc 4 1, 3) := by decide +kernel
theorem dX4_weigh_28 : decode cX4_weigh 28 = .ok (.goto (-20), 3) := by decide +kernel
theorem dX4_weigh_31 : decode cX4_weigh 31 = .ok (.iload_n 3, 1) := by decide +kernel
theorem dX4_weigh_32 : decode cX4_weigh 32 = .ok (.iconst 1, 1) := by decide +kernel
theorem dX4_weigh_33 : decode cX4_weigh 33 = .ok (.isub, 1) := by decide +kernel
theorem dX4_weigh_34 : decode cX4_weigh 34 = .ok (.istore 4, 2) := by decide +kernel
theorem dX4_weigh_36 : decode cX4_weigh 36 = .ok (.iload 4, 2) := by decide +kernel
theorem dX4_weigh_38 : decode cX4_weigh 38 = .ok (.ifCond .lt 75, 3) := by decide +kernel
theorem dX4_weigh_41 : decode cX4_weigh 41 = .ok (.aload_n 1, 1) := by decide +kernel
theorem dX4_weigh_42 : decode cX4_weigh 42 = .ok (.iload 4, 2) := by decide +kernel
theorem dX4_weigh_44 : decode cX4_weigh 44 = .ok (.invokevirtual 26, 3) := by decide +kernel
theorem dX4_weigh_47 : decode cX4_weigh 47 = .ok (.astore 5, 2) := by decide +kernel
theorem dX4_weigh_49 : decode cX4_weigh 49 = .ok (.aload_n 0, 1) := by decide +kernel
theorem dX4_weigh_50 : decode cX4_weigh 50 = .ok (.getfield 16, 3) := by decide +kernel
theorem dX4_weigh_53 : decode cX4_weigh 53 = .ok (.iload 4, 2) := by decide +kernel
theorem dX4_weigh_55 : decode cX4_weigh 55 = .ok (.aload 5, 2) := by decide +kernel
theorem dX4_weigh_57 : decode cX4_weigh 57 = .ok (.ifnonnull 7, 3) := by decide +kernel
theorem dX4_weigh_60 : decode cX4_weigh 60 = .ok (.iconst 0, 1) := by decide +kernel
theorem dX4_weigh_61 : decode cX4_weigh 61 = .ok (.goto 10, 3) := by decide +kernel
theorem dX4_weigh_64 : decode cX4_weigh 64 = .ok (.aload_n 1, 1) := by decide +kernel
theorem dX4_weigh_65 : decode cX4_weigh 65 = .ok (.aload 5, 2) := by decide +kernel
theorem dX4_weigh_67 : decode cX4_weigh 67 = .ok (.iload_n 2, 1) := by decide +kernel
theorem dX4_weigh_68 : decode cX4_weigh 68 = .ok (.invokevirtual 30, 3) := by decide +kernel
theorem dX4_weigh_71 : decode cX4_weigh 71 = .ok (.iastore, 1) := by decide +kernel
theorem dX4_weigh_72 : decode cX4_weigh 72 = .ok (.iconst 0, 1) := by decide +kernel
theorem dX4_weigh_73 : decode cX4_weigh 73 = .ok (.istore 6, 2) := by decide +kernel
theorem dX4_weigh_75 : decode cX4_weigh 75 = .ok (.iload 6, 2) := by decide +kernel
theorem dX4_weigh_77 : decode cX4_weigh 77 = .ok (.bipush 32, 2) := by decide +kernel
theorem dX4_weigh_79 : decode cX4_weigh 79 = .ok (.if_icmp .ge 28, 3) := by decide +kernel
theorem dX4_weigh_82 : decode cX4_weigh 82 = .ok (.aload_n 0, 1) := by decide +kernel
theorem dX4_weigh_83 : decode cX4_weigh 83 = .ok (.getfield 13, 3) := by decide +kernel
theorem dX4_weigh_86 : decode cX4_weigh 86 = .ok (.iload 4, 2) := by decide +kernel
theorem dX4_weigh_88 : decode cX4_weigh 88 = .ok (.aaload, 1) := by decide +kernel
theorem dX4_weigh_89 : decode cX4_weigh 89 = .ok (.iload 6, 2) := by decide +kernel
theorem dX4_weigh_91 : decode cX4_weigh 91 = .ok (.aload_n 0, 1) := by decide +kernel
theorem dX4_weigh_92 : decode cX4_weigh 92 = .ok (.aload_n 1, 1) := by decide +kernel
theorem dX4_weigh_93 : decode cX4_weigh 93 = .ok (.iload 4, 2) := by decide +kernel
theorem dX4_weigh_95 : decode cX4_weigh 95 = .ok (.iload 6, 2) := by decide +kernel
theorem dX4_weigh_97 : decode cX4_weigh 97 = .ok (.invokevirtual 34, 3) := by decide +kernel
theorem dX4_weigh_100 : decode cX4_weigh 100 = .ok (.iastore, 1) := by decide +kernel
theorem dX4_weigh_101 : decode cX4_weigh 101 = .ok (.iinc 6 1, 3) := by decide +kernel
theorem dX4_weigh_104 : decode cX4_weigh 104 = .ok (.goto (-29), 3) := by decide +kernel
theorem dX4_weigh_107 : decode cX4_weigh 107 = .ok (.iinc 4 (-1), 3) := by decide +kernel
theorem dX4_weigh_110 : decode cX4_weigh 110 = .ok (.goto (-74), 3) := by decide +kernel
theorem dX4_weigh_113 : decode cX4_weigh 113 = .ok (.return_, 1) := by decide +kernel
theorem dX4_mostWith_0 : decode cX4_mostWith 0 = .ok (.aload_n 0, 1) := by decide +kernel
theorem dX4_mostWith_1 : decode cX4_mostWith 1 = .ok (.getfield 13, 3) := by decide +kernel
theorem dX4_mostWith_4 : decode cX4_mostWith 4 = .ok (.iload_n 2, 1) := by decide +kernel
theorem dX4_mostWith_5 : decode cX4_mostWith 5 = .ok (.iconst 1, 1) := by decide +kernel
theorem dX4_mostWith_6 : decode cX4_mostWith 6 = .ok (.iadd, 1) := by decide +kernel
theorem dX4_mostWith_7 : decode cX4_mostWith 7 = .ok (.aaload, 1) := by decide +kernel
theorem dX4_mostWith_8 : decode cX4_mostWith 8 = .ok (.iload_n 3, 1) := by decide +kernel
theorem dX4_mostWith_9 : decode cX4_mostWith 9 = .ok (.iaload, 1) := by decide +kernel
theorem dX4_mostWith_10 : decode cX4_mostWith 10 = .ok (.istore 4, 2) := by decide +kernel
theorem dX4_mostWith_12 : decode cX4_mostWith 12 = .ok (.iconst 0, 1) := by decide +kernel
theorem dX4_mostWith_13 : decode cX4_mostWith 13 = .ok (.istore 5, 2) := by decide +kernel
theorem dX4_mostWith_15 : decode cX4_mostWith 15 = .ok (.iload 5, 2) := by decide +kernel
theorem dX4_mostWith_17 : decode cX4_mostWith 17 = .ok (.aload_n 1, 1) := by decide +kernel
theorem dX4_mostWith_18 : decode cX4_mostWith 18 = .ok (.getfield 38, 3) := by decide +kernel
theorem dX4_mostWith_21 : decode cX4_mostWith 21 = .ok (.if_icmp .ge 36, 3) := by decide +kernel
theorem dX4_mostWith_24 : decode cX4_mostWith 24 = .ok (.aload_n 0, 1) := by decide +kernel
theorem dX4_mostWith_25 : decode cX4_mostWith 25 = .ok (.iload_n 2, 1) := by decide +kernel
theorem dX4_mostWith_26 : decode cX4_mostWith 26 = .ok (.iload 5, 2) := by decide +kernel
theorem dX4_mostWith_28 : decode cX4_mostWith 28 = .ok (.iload_n 3, 1) := by decide +kernel
theorem dX4_mostWith_29 : decode cX4_mostWith 29 = .ok (.invokevirtual 41, 3) := by decide +kernel
theorem dX4_mostWith_32 : decode cX4_mostWith 32 = .ok (.ifCond .eq 19, 3) := by decide +kernel
theorem dX4_mostWith_35 : decode cX4_mostWith 35 = .ok (.iload 4, 2) := by decide +kernel
theorem dX4_mostWith_37 : decode cX4_mostWith 37 = .ok (.aload_n 0, 1) := by decide +kernel
theorem dX4_mostWith_38 : decode cX4_mostWith 38 = .ok (.aload_n 1, 1) := by decide +kernel
theorem dX4_mostWith_39 : decode cX4_mostWith 39 = .ok (.iload_n 2, 1) := by decide +kernel
theorem dX4_mostWith_40 : decode cX4_mostWith 40 = .ok (.iload 5, 2) := by decide +kernel
theorem dX4_mostWith_42 : decode cX4_mostWith 42 = .ok (.iload_n 3, 1) := by decide +kernel
theorem dX4_mostWith_43 : decode cX4_mostWith 43 = .ok (.invokevirtual 45, 3) := by decide +kernel
theorem dX4_mostWith_46 : decode cX4_mostWith 46 = .ok (.invokestatic 49, 3) := by decide +kernel
theorem dX4_mostWith_49 : decode cX4_mostWith 49 = .ok (.istore 4, 2) := by decide +kernel
theorem dX4_mostWith_51 : decode cX4_mostWith 51 = .ok (.iinc 5 1, 3) := by decide +kernel
theorem dX4_mostWith_54 : decode cX4_mostWith 54 = .ok (.goto (-39), 3) := by decide +kernel
theorem dX4_mostWith_57 : decode cX4_mostWith 57 = .ok (.iload 4, 2) := by decide +kernel
theorem dX4_mostWith_59 : decode cX4_mostWith 59 = .ok (.ireturn, 1) := by decide +kernel
theorem dX4_isFree_0 : decode cX4_isFree 0 = .ok (.aload_n 0, 1) := by decide +kernel
theorem dX4_isFree_1 : decode cX4_isFree 1 = .ok (.getfield 16, 3) := by decide +kernel
theorem dX4_isFree_4 : decode cX4_isFree 4 = .ok (.iload_n 1, 1) := by decide +kernel
theorem dX4_isFree_5 : decode cX4_isFree 5 = .ok (.iaload, 1) := by decide +kernel
theorem dX4_isFree_6 : decode cX4_isFree 6 = .ok (.iload_n 3, 1) := by decide +kernel
theorem dX4_isFree_7 : decode cX4_isFree 7 = .ok (.iconst (-1), 1) := by decide +kernel
theorem dX4_isFree_8 : decode cX4_isFree 8 = .ok (.ixor, 1) := by decide +kernel
theorem dX4_isFree_9 : decode cX4_isFree 9 = .ok (.iand, 1) := by decide +kernel
theorem dX4_isFree_10 : decode cX4_isFree 10 = .ok (.iconst 1, 1) := by decide +kernel
theorem dX4_isFree_11 : decode cX4_isFree 11 = .ok (.iload_n 2, 1) := by decide +kernel
theorem dX4_isFree_12 : decode cX4_isFree 12 = .ok (.ishl, 1) := by decide +kernel
theorem dX4_isFree_13 : decode cX4_isFree 13 = .ok (.iand, 1) := by decide +kernel
theorem dX4_isFree_14 : decode cX4_isFree 14 = .ok (.ifCond .eq 7, 3) := by decide +kernel
theorem dX4_isFree_17 : decode cX4_isFree 17 = .ok (.iconst 1, 1) := by decide +kernel
theorem dX4_isFree_18 : decode cX4_isFree 18 = .ok (.goto 4, 3) := by decide +kernel
theorem dX4_isFree_21 : decode cX4_isFree 21 = .ok (.iconst 0, 1) := by decide +kernel
theorem dX4_isFree_22 : decode cX4_isFree 22 = .ok (.ireturn, 1) := by decide +kernel
theorem dX4_withGood_0 : decode cX4_withGood 0 = .ok (.aload_n 1, 1) := by decide +kernel
theorem dX4_withGood_1 : decode cX4_withGood 1 = .ok (.getfield 55, 3) := by decide +kernel
theorem dX4_withGood_4 : decode cX4_withGood 4 = .ok (.iload_n 3, 1) := by decide +kernel
theorem dX4_withGood_5 : decode cX4_withGood 5 = .ok (.iaload, 1) := by decide +kernel
theorem dX4_withGood_6 : decode cX4_withGood 6 = .ok (.aload_n 0, 1) := by decide +kernel
theorem dX4_withGood_7 : decode cX4_withGood 7 = .ok (.getfield 13, 3) := by decide +kernel
theorem dX4_withGood_10 : decode cX4_withGood 10 = .ok (.iload_n 2, 1) := by decide +kernel
theorem dX4_withGood_11 : decode cX4_withGood 11 = .ok (.iconst 1, 1) := by decide +kernel
theorem dX4_withGood_12 : decode cX4_withGood 12 = .ok (.iadd, 1) := by decide +kernel
theorem dX4_withGood_13 : decode cX4_withGood 13 = .ok (.aaload, 1) := by decide +kernel
theorem dX4_withGood_14 : decode cX4_withGood 14 = .ok (.iload 4, 2) := by decide +kernel
theorem dX4_withGood_16 : decode cX4_withGood 16 = .ok (.iconst 1, 1) := by decide +kernel
theorem dX4_withGood_17 : decode cX4_withGood 17 = .ok (.iload_n 3, 1) := by decide +kernel
theorem dX4_withGood_18 : decode cX4_withGood 18 = .ok (.ishl, 1) := by decide +kernel
theorem dX4_withGood_19 : decode cX4_withGood 19 = .ok (.ior, 1) := by decide +kernel
theorem dX4_withGood_20 : decode cX4_withGood 20 = .ok (.iaload, 1) := by decide +kernel
theorem dX4_withGood_21 : decode cX4_withGood 21 = .ok (.iadd, 1) := by decide +kernel
theorem dX4_withGood_22 : decode cX4_withGood 22 = .ok (.ireturn, 1) := by decide +kernel
theorem dX4_most_0 : decode cX4_most 0 = .ok (.aload_n 0, 1) := by decide +kernel
theorem dX4_most_1 : decode cX4_most 1 = .ok (.getfield 13, 3) := by decide +kernel
theorem dX4_most_4 : decode cX4_most 4 = .ok (.iconst 0, 1) := by decide +kernel
theorem dX4_most_5 : decode cX4_most 5 = .ok (.aaload, 1) := by decide +kernel
theorem dX4_most_6 : decode cX4_most 6 = .ok (.iconst 0, 1) := by decide +kernel
theorem dX4_most_7 : decode cX4_most 7 = .ok (.iaload, 1) := by decide +kernel
theorem dX4_most_8 : decode cX4_most 8 = .ok (.ireturn, 1) := by decide +kernel
theorem dX4_goodOf_0 : decode cX4_goodOf 0 = .ok (.iconst 0, 1) := by decide +kernel
theorem dX4_goodOf_1 : decode cX4_goodOf 1 = .ok (.istore_n 3, 1) := by decide +kernel
theorem dX4_goodOf_2 : decode cX4_goodOf 2 = .ok (.bipush (-9), 2) := by decide +kernel
theorem dX4_goodOf_4 : decode cX4_goodOf 4 = .ok (.istore 4, 2) := by decide +kernel
theorem dX4_goodOf_6 : decode cX4_goodOf 6 = .ok (.iconst 0, 1) := by decide +kernel
theorem dX4_goodOf_7 : decode cX4_goodOf 7 = .ok (.istore 5, 2) := by decide +kernel
theorem dX4_goodOf_9 : decode cX4_goodOf 9 = .ok (.iload 5, 2) := by decide +kernel
theorem dX4_goodOf_11 : decode cX4_goodOf 11 = .ok (.iload_n 2, 1) := by decide +kernel
theorem dX4_goodOf_12 : decode cX4_goodOf 12 = .ok (.if_icmp .gt 51, 3) := by decide +kernel
theorem dX4_goodOf_15 : decode cX4_goodOf 15 = .ok (.iload 5, 2) := by decide +kernel
theorem dX4_goodOf_17 : decode cX4_goodOf 17 = .ok (.aload_n 1, 1) := by decide +kernel
theorem dX4_goodOf_18 : decode cX4_goodOf 18 = .ok (.getfield 20, 3) := by decide +kernel
theorem dX4_goodOf_21 : decode cX4_goodOf 21 = .ok (.if_icmp .ge 14, 3) := by decide +kernel
theorem dX4_goodOf_24 : decode cX4_goodOf 24 = .ok (.aload_n 0, 1) := by decide +kernel
theorem dX4_goodOf_25 : decode cX4_goodOf 25 = .ok (.aload_n 1, 1) := by decide +kernel
theorem dX4_goodOf_26 : decode cX4_goodOf 26 = .ok (.iload 5, 2) := by decide +kernel
theorem dX4_goodOf_28 : decode cX4_goodOf 28 = .ok (.iload_n 3, 1) := by decide +kernel
theorem dX4_goodOf_29 : decode cX4_goodOf 29 = .ok (.invokevirtual 58, 3) := by decide +kernel
theorem dX4_goodOf_32 : decode cX4_goodOf 32 = .ok (.goto 5, 3) := by decide +kernel
theorem dX4_goodOf_35 : decode cX4_goodOf 35 = .ok (.bipush (-9), 2) := by decide +kernel
theorem dX4_goodOf_37 : decode cX4_goodOf 37 = .ok (.istore 4, 2) := by decide +kernel
theorem dX4_goodOf_39 : decode cX4_goodOf 39 = .ok (.iload_n 3, 1) := by decide +kernel
theorem dX4_goodOf_40 : decode cX4_goodOf 40 = .ok (.iload 4, 2) := by decide +kernel
theorem dX4_goodOf_42 : decode cX4_goodOf 42 = .ok (.bipush (-9), 2) := by decide +kernel
theorem dX4_goodOf_44 : decode cX4_goodOf 44 = .ok (.if_icmp .ne 7, 3) := by decide +kernel
theorem dX4_goodOf_47 : decode cX4_goodOf 47 = .ok (.iconst 0, 1) := by decide +kernel
theorem dX4_goodOf_48 : decode cX4_goodOf 48 = .ok (.goto 7, 3) := by decide +kernel
theorem dX4_goodOf_51 : decode cX4_goodOf 51 = .ok (.iconst 1, 1) := by decide +kernel
theorem dX4_goodOf_52 : decode cX4_goodOf 52 = .ok (.iload 4, 2) := by decide +kernel
theorem dX4_goodOf_54 : decode cX4_goodOf 54 = .ok (.ishl, 1) := by decide +kernel
theorem dX4_goodOf_55 : decode cX4_goodOf 55 = .ok (.ior, 1) := by decide +kernel
theorem dX4_goodOf_56 : decode cX4_goodOf 56 = .ok (.istore_n 3, 1) := by decide +kernel
theorem dX4_goodOf_57 : decode cX4_goodOf 57 = .ok (.iinc 5 1, 3) := by decide +kernel
theorem dX4_goodOf_60 : decode cX4_goodOf 60 = .ok (.goto (-51), 3) := by decide +kernel
theorem dX4_goodOf_63 : decode cX4_goodOf 63 = .ok (.iload 4, 2) := by decide +kernel
theorem dX4_goodOf_65 : decode cX4_goodOf 65 = .ok (.ireturn, 1) := by decide +kernel
theorem dX4_firstGood_0 : decode cX4_firstGood 0 = .ok (.iconst 0, 1) := by decide +kernel
theorem dX4_firstGood_1 : decode cX4_firstGood 1 = .ok (.istore 4, 2) := by decide +kernel
theorem dX4_firstGood_3 : decode cX4_firstGood 3 = .ok (.iload 4, 2) := by decide +kernel
theorem dX4_firstGood_5 : decode cX4_firstGood 5 = .ok (.aload_n 1, 1) := by decide +kernel
theorem dX4_firstGood_6 : decode cX4_firstGood 6 = .ok (.getfield 38, 3) := by decide +kernel
theorem dX4_firstGood_9 : decode cX4_firstGood 9 = .ok (.if_icmp .ge 43, 3) := by decide +kernel
theorem dX4_firstGood_12 : decode cX4_firstGood 12 = .ok (.aload_n 0, 1) := by decide +kernel
theorem dX4_firstGood_13 : decode cX4_firstGood 13 = .ok (.iload_n 2, 1) := by decide +kernel
theorem dX4_firstGood_14 : decode cX4_firstGood 14 = .ok (.iload 4, 2) := by decide +kernel
theorem dX4_firstGood_16 : decode cX4_firstGood 16 = .ok (.iload_n 3, 1) := by decide +kernel
theorem dX4_firstGood_17 : decode cX4_firstGood 17 = .ok (.invokevirtual 41, 3) := by decide +kernel
theorem dX4_firstGood_20 : decode cX4_firstGood 20 = .ok (.ifCond .eq 26, 3) := by decide +kernel
theorem dX4_firstGood_23 : decode cX4_firstGood 23 = .ok (.aload_n 0, 1) := by decide +kernel
theorem dX4_firstGood_24 : decode cX4_firstGood 24 = .ok (.aload_n 1, 1) := by decide +kernel
theorem dX4_firstGood_25 : decode cX4_firstGood 25 = .ok (.iload_n 2, 1) := by decide +kernel
theorem dX4_firstGood_26 : decode cX4_firstGood 26 = .ok (.iload 4, 2) := by decide +kernel
theorem dX4_firstGood_28 : decode cX4_firstGood 28 = .ok (.iload_n 3, 1) := by decide +kernel
theorem dX4_firstGood_29 : decode cX4_firstGood 29 = .ok (.invokevirtual 45, 3) := by decide +kernel
theorem dX4_firstGood_32 : decode cX4_firstGood 32 = .ok (.aload_n 0, 1) := by decide +kernel
theorem dX4_firstGood_33 : decode cX4_firstGood 33 = .ok (.getfield 13, 3) := by decide +kernel
theorem dX4_firstGood_36 : decode cX4_firstGood 36 = .ok (.iload_n 2, 1) := by decide +kernel
theorem dX4_firstGood_37 : decode cX4_firstGood 37 = .ok (.aaload, 1) := by decide +kernel
theorem dX4_firstGood_38 : decode cX4_firstGood 38 = .ok (.iload_n 3, 1) := by decide +kernel
theorem dX4_firstGood_39 : decode cX4_firstGood 39 = .ok (.iaload, 1) := by decide +kernel
theorem dX4_firstGood_40 : decode cX4_firstGood 40 = .ok (.if_icmp .ne 6, 3) := by decide +kernel
theorem dX4_firstGood_43 : decode cX4_firstGood 43 = .ok (.iload 4, 2) := by decide +kernel
theorem dX4_firstGood_45 : decode cX4_firstGood 45 = .ok (.ireturn, 1) := by decide +kernel
theorem dX4_firstGood_46 : decode cX4_firstGood 46 = .ok (.iinc 4 1, 3) := by decide +kernel
theorem dX4_firstGood_49 : decode cX4_firstGood 49 = .ok (.goto (-46), 3) := by decide +kernel
theorem dX4_firstGood_52 : decode cX4_firstGood 52 = .ok (.bipush (-9), 2) := by decide +kernel
theorem dX4_firstGood_54 : decode cX4_firstGood 54 = .ok (.ireturn, 1) := by decide +kernel
theorem dX5_init_0 : decode cX5_init 0 = .ok (.aload_n 0, 1) := by decide +kernel
theorem dX5_init_1 : decode cX5_init 1 = .ok (.iload_n 1, 1) := by decide +kernel
theorem dX5_init_2 : decode cX5_init 2 = .ok (.iload_n 2, 1) := by decide +kernel
theorem dX5_init_3 : decode cX5_init 3 = .ok (.iload_n 3, 1) := by decide +kernel
theorem dX5_init_4 : decode cX5_init 4 = .ok (.invokespecial 3, 3) := by decide +kernel
theorem dX5_init_7 : decode cX5_init 7 = .ok (.return_, 1) := by decide +kernel
theorem dX5_kindNumber_0 : decode cX5_kindNumber 0 = .ok (.iconst 1, 1) := by decide +kernel
theorem dX5_kindNumber_1 : decode cX5_kindNumber 1 = .ok (.ireturn, 1) := by decide +kernel
theorem dX5_drainBy_0 : decode cX5_drainBy 0 = .ok (.iconst 0, 1) := by decide +kernel
theorem dX5_drainBy_1 : decode cX5_drainBy 1 = .ok (.iload_n 1, 1) := by decide +kernel
theorem dX5_drainBy_2 : decode cX5_drainBy 2 = .ok (.aload_n 0, 1) := by decide +kernel
theorem dX5_drainBy_3 : decode cX5_drainBy 3 = .ok (.getfield 9, 3) := by decide +kernel
theorem dX5_drainBy_6 : decode cX5_drainBy 6 = .ok (.iadd, 1) := by decide +kernel
theorem dX5_drainBy_7 : decode cX5_drainBy 7 = .ok (.iconst 1, 1) := by decide +kernel
theorem dX5_drainBy_8 : decode cX5_drainBy 8 = .ok (.isub, 1) := by decide +kernel
theorem dX5_drainBy_9 : decode cX5_drainBy 9 = .ok (.invokestatic 15, 3) := by decide +kernel
theorem dX5_drainBy_12 : decode cX5_drainBy 12 = .ok (.ireturn, 1) := by decide +kernel
theorem dX5_telling_0 : decode cX5_telling 0 = .ok (.aload_n 1, 1) := by decide +kernel
theorem dX5_telling_1 : decode cX5_telling 1 = .ok (.iconst 2, 1) := by decide +kernel
theorem dX5_telling_2 : decode cX5_telling 2 = .ok (.invokevirtual 21, 3) := by decide +kernel
theorem dX5_telling_5 : decode cX5_telling 5 = .ok (.aload_n 0, 1) := by decide +kernel
theorem dX5_telling_6 : decode cX5_telling 6 = .ok (.aload_n 1, 1) := by decide +kernel
theorem dX5_telling_7 : decode cX5_telling 7 = .ok (.invokevirtual 27, 3) := by decide +kernel
theorem dX5_telling_10 : decode cX5_telling 10 = .ok (.bipush 100, 2) := by decide +kernel
theorem dX5_telling_12 : decode cX5_telling 12 = .ok (.iadd, 1) := by decide +kernel
theorem dX5_telling_13 : decode cX5_telling 13 = .ok (.ireturn, 1) := by decide +kernel
theorem dX6_init_0 : decode cX6_init 0 = .ok (.aload_n 0, 1) := by decide +kernel
theorem dX6_init_1 : decode cX6_init 1 = .ok (.invokespecial 3, 3) := by decide +kernel
theorem dX6_init_4 : decode cX6_init 4 = .ok (.aload_n 0, 1) := by decide +kernel
theorem dX6_init_5 : decode cX6_init 5 = .ok (.iload_n 1, 1) := by decide +kernel
theorem dX6_init_6 : decode cX6_init 6 = .ok (.putfield 9, 3) := by decide +kernel
theorem dX6_init_9 : decode cX6_init 9 = .ok (.aload_n 0, 1) := by decide +kernel
theorem dX6_init_10 : decode cX6_init 10 = .ok (.iload_n 2, 1) := by decide +kernel
theorem dX6_init_11 : decode cX6_init 11 = .ok (.putfield 15, 3) := by decide +kernel
theorem dX6_init_14 : decode cX6_init 14 = .ok (.aload_n 0, 1) := by decide +kernel
theorem dX6_init_15 : decode cX6_init 15 = .ok (.iload_n 3, 1) := by decide +kernel
theorem dX6_init_16 : decode cX6_init 16 = .ok (.putfield 18, 3) := by decide +kernel
theorem dX6_init_19 : decode cX6_init 19 = .ok (.return_, 1) := by decide +kernel
theorem dX6_kindNumber_0 : decode cX6_kindNumber 0 = .ok (.iconst 0, 1) := by decide +kernel
theorem dX6_kindNumber_1 : decode cX6_kindNumber 1 = .ok (.ireturn, 1) := by decide +kernel
theorem dX6_drainBy_0 : decode cX6_drainBy 0 = .ok (.iload_n 1, 1) := by decide +kernel
theorem dX6_drainBy_1 : decode cX6_drainBy 1 = .ok (.aload_n 0, 1) := by decide +kernel
theorem dX6_drainBy_2 : decode cX6_drainBy 2 = .ok (.getfield 18, 3) := by decide +kernel
theorem dX6_drainBy_5 : decode cX6_drainBy 5 = .ok (.iadd, 1) := by decide +kernel
theorem dX6_drainBy_6 : decode cX6_drainBy 6 = .ok (.ireturn, 1) := by decide +kernel
theorem dX6_telling_0 : decode cX6_telling 0 = .ok (.aload_n 0, 1) := by decide +kernel
theorem dX6_telling_1 : decode cX6_telling 1 = .ok (.aload_n 1, 1) := by decide +kernel
theorem dX6_telling_2 : decode cX6_telling 2 = .ok (.invokevirtual 21, 3) := by decide +kernel
theorem dX6_telling_5 : decode cX6_telling 5 = .ok (.ireturn, 1) := by decide +kernel
theorem dX6_takersTelling_0 : decode cX6_takersTelling 0 = .ok (.aload_n 1, 1) := by decide +kernel
theorem dX6_takersTelling_1 : decode cX6_takersTelling 1 = .ok (.iconst 1, 1) := by decide +kernel
theorem dX6_takersTelling_2 : decode cX6_takersTelling 2 = .ok (.invokevirtual 25, 3) := by decide +kernel
theorem dX6_takersTelling_5 : decode cX6_takersTelling 5 = .ok (.aload_n 0, 1) := by decide +kernel
theorem dX6_takersTelling_6 : decode cX6_takersTelling 6 = .ok (.getfield 15, 3) := by decide +kernel
theorem dX6_takersTelling_9 : decode cX6_takersTelling 9 = .ok (.ireturn, 1) := by decide +kernel
theorem dX6_rung_0 : decode cX6_rung 0 = .ok (.aload_n 1, 1) := by decide +kernel
theorem dX6_rung_1 : decode cX6_rung 1 = .ok (.iconst 4, 1) := by decide +kernel
theorem dX6_rung_2 : decode cX6_rung 2 = .ok (.invokevirtual 25, 3) := by decide +kernel
theorem dX6_rung_5 : decode cX6_rung 5 = .ok (.aload_n 0, 1) := by decide +kernel
theorem dX6_rung_6 : decode cX6_rung 6 = .ok (.getfield 9, 3) := by decide +kernel
theorem dX6_rung_9 : decode cX6_rung 9 = .ok (.ireturn, 1) := by decide +kernel
theorem dX7_init_0 : decode cX7_init 0 = .ok (.aload_n 0, 1) := by decide +kernel
theorem dX7_init_1 : decode cX7_init 1 = .ok (.invokespecial 1, 3) := by decide +kernel
theorem dX7_init_4 : decode cX7_init 4 = .ok (.aload_n 0, 1) := by decide +kernel
theorem dX7_init_5 : decode cX7_init 5 = .ok (.iconst 0, 1) := by decide +kernel
theorem dX7_init_6 : decode cX7_init 6 = .ok (.putfield 7, 3) := by decide +kernel
theorem dX7_init_9 : decode cX7_init 9 = .ok (.return_, 1) := by decide +kernel
theorem dX7_leave_0 : decode cX7_leave 0 = .ok (.aload_n 0, 1) := by decide +kernel
theorem dX7_leave_1 : decode cX7_leave 1 = .ok (.bipush 31, 2) := by decide +kernel
theorem dX7_leave_3 : decode cX7_leave 3 = .ok (.aload_n 0, 1) := by decide +kernel
theorem dX7_leave_4 : decode cX7_leave 4 = .ok (.getfield 7, 3) := by decide +kernel
theorem dX7_leave_7 : decode cX7_leave 7 = .ok (.imul, 1) := by decide +kernel
theorem dX7_leave_8 : decode cX7_leave 8 = .ok (.iload_n 1, 1) := by decide +kernel
theorem dX7_leave_9 : decode cX7_leave 9 = .ok (.iadd, 1) := by decide +kernel
theorem dX7_leave_10 : decode cX7_leave 10 = .ok (.putfield 7, 3) := by decide +kernel
theorem dX7_leave_13 : decode cX7_leave 13 = .ok (.return_, 1) := by decide +kernel
theorem dX8_init_0 : decode cX8_init 0 = .ok (.aload_n 0, 1) := by decide +kernel
theorem dX8_init_1 : decode cX8_init 1 = .ok (.invokespecial 3, 3) := by decide +kernel
theorem dX8_init_4 : decode cX8_init 4 = .ok (.aload_n 0, 1) := by decide +kernel
theorem dX8_init_5 : decode cX8_init 5 = .ok (.bipush 6, 2) := by decide +kernel
theorem dX8_init_7 : decode cX8_init 7 = .ok (.newarray .int, 2) := by decide +kernel
theorem dX8_init_9 : decode cX8_init 9 = .ok (.putfield 9, 3) := by decide +kernel
theorem dX8_init_12 : decode cX8_init 12 = .ok (.aload_n 0, 1) := by decide +kernel
theorem dX8_init_13 : decode cX8_init 13 = .ok (.iconst 5, 1) := by decide +kernel
theorem dX8_init_14 : decode cX8_init 14 = .ok (.anewarray 15, 3) := by decide +kernel
theorem dX8_init_17 : decode cX8_init 17 = .ok (.putfield 17, 3) := by decide +kernel
theorem dX8_init_20 : decode cX8_init 20 = .ok (.aload_n 0, 1) := by decide +kernel
theorem dX8_init_21 : decode cX8_init 21 = .ok (.iconst 5, 1) := by decide +kernel
theorem dX8_init_22 : decode cX8_init 22 = .ok (.newarray .int, 2) := by decide +kernel
theorem dX8_init_24 : decode cX8_init 24 = .ok (.putfield 21, 3) := by decide +kernel
theorem dX8_init_27 : decode cX8_init 27 = .ok (.aload_n 0, 1) := by decide +kernel
theorem dX8_init_28 : decode cX8_init 28 = .ok (.iconst 0, 1) := by decide +kernel
theorem dX8_init_29 : decode cX8_init 29 = .ok (.putfield 24, 3) := by decide +kernel
theorem dX8_init_32 : decode cX8_init 32 = .ok (.aload_n 0, 1) := by decide +kernel
theorem dX8_init_33 : decode cX8_init 33 = .ok (.iconst 0, 1) := by decide +kernel
theorem dX8_init_34 : decode cX8_init 34 = .ok (.putfield 28, 3) := by decide +kernel
theorem dX8_init_37 : decode cX8_init 37 = .ok (.aload_n 0, 1) := by decide +kernel
theorem dX8_init_38 : decode cX8_init 38 = .ok (.iconst 0, 1) := by decide +kernel
theorem dX8_init_39 : decode cX8_init 39 = .ok (.putfield 31, 3) := by decide +kernel
theorem dX8_init_42 : decode cX8_init 42 = .ok (.return_, 1) := by decide +kernel
theorem dX8_clear_0 : decode cX8_clear 0 = .ok (.aload_n 0, 1) := by decide +kernel
theorem dX8_clear_1 : decode cX8_clear 1 = .ok (.iconst 0, 1) := by decide +kernel
theorem dX8_clear_2 : decode cX8_clear 2 = .ok (.putfield 24, 3) := by decide +kernel
theorem dX8_clear_5 : decode cX8_clear 5 = .ok (.aload_n 0, 1) := by decide +kernel
theorem dX8_clear_6 : decode cX8_clear 6 = .ok (.iconst 0, 1) := by decide +kernel
theorem dX8_clear_7 : decode cX8_clear 7 = .ok (.putfield 28, 3) := by decide +kernel
theorem dX8_clear_10 : decode cX8_clear 10 = .ok (.aload_n 0, 1) := by decide +kernel
theorem dX8_clear_11 : decode cX8_clear 11 = .ok (.iconst 0, 1) := by decide +kernel
theorem dX8_clear_12 : decode cX8_clear 12 = .ok (.putfield 31, 3) := by decide +kernel
theorem dX8_clear_15 : decode cX8_clear 15 = .ok (.return_, 1) := by decide +kernel
theorem dX8_stands_0 : decode cX8_stands 0 = .ok (.aload_n 0, 1) := by decide +kernel
theorem dX8_stands_1 : decode cX8_stands 1 = .ok (.getfield 28, 3) := by decide +kernel
theorem dX8_stands_4 : decode cX8_stands 4 = .ok (.ifCond .le 7, 3) := by decide +kernel
theorem dX8_stands_7 : decode cX8_stands 7 = .ok (.iconst 1, 1) := by decide +kernel
theorem dX8_stands_8 : decode cX8_stands 8 = .ok (.goto 4, 3) := by decide +kernel
theorem dX8_stands_11 : decode cX8_stands 11 = .ok (.iconst 0, 1) := by decide +kernel
theorem dX8_stands_12 : decode cX8_stands 12 = .ok (.ireturn, 1) := by decide +kernel
theorem dX8_isPlace_0 : decode cX8_isPlace 0 = .ok (.iload_n 1, 1) := by decide +kernel
theorem dX8_isPlace_1 : decode cX8_isPlace 1 = .ok (.ifCond .lt 15, 3) := by decide +kernel
theorem dX8_isPlace_4 : decode cX8_isPlace 4 = .ok (.iload_n 1, 1) := by decide +kernel
theorem dX8_isPlace_5 : decode cX8_isPlace 5 = .ok (.aload_n 0, 1) := by decide +kernel
theorem dX8_isPlace_6 : decode cX8_isPlace 6 = .ok (.getfield 24, 3) := by decide +kernel
theorem dX8_isPlace_9 : decode cX8_isPlace 9 = .ok (.if_icmp .ge 7, 3) := by decide +kernel
theorem dX8_isPlace_12 : decode cX8_isPlace 12 = .ok (.iconst 1, 1) := by decide +kernel
theorem dX8_isPlace_13 : decode cX8_isPlace 13 = .ok (.goto 4, 3) := by decide +kernel
theorem dX8_isPlace_16 : decode cX8_isPlace 16 = .ok (.iconst 0, 1) := by decide +kernel
theorem dX8_isPlace_17 : decode cX8_isPlace 17 = .ok (.ireturn, 1) := by decide +kernel
theorem dX8_isGood_0 : decode cX8_isGood 0 = .ok (.iload_n 1, 1) := by decide +kernel
theorem dX8_isGood_1 : decode cX8_isGood 1 = .ok (.ifCond .lt 15, 3) := by decide +kernel
theorem dX8_isGood_4 : decode cX8_isGood 4 = .ok (.iload_n 1, 1) := by decide +kernel
theorem dX8_isGood_5 : decode cX8_isGood 5 = .ok (.aload_n 0, 1) := by decide +kernel
theorem dX8_isGood_6 : decode cX8_isGood 6 = .ok (.getfield 31, 3) := by decide +kernel
theorem dX8_isGood_9 : decode cX8_isGood 9 = .ok (.if_icmp .ge 7, 3) := by decide +kernel
theorem dX8_isGood_12 : decode cX8_isGood 12 = .ok (.iconst 1, 1) := by decide +kernel
theorem dX8_isGood_13 : decode cX8_isGood 13 = .ok (.goto 4, 3) := by decide +kernel
theorem dX8_isGood_16 : decode cX8_isGood 16 = .ok (.iconst 0, 1) := by decide +kernel
theorem dX8_isGood_17 : decode cX8_isGood 17 = .ok (.ireturn, 1) := by decide +kernel
theorem dX8_takerAt_0 : decode cX8_takerAt 0 = .ok (.iload_n 1, 1) := by decide +kernel
theorem dX8_takerAt_1 : decode cX8_takerAt 1 = .ok (.ifCond .lt 20, 3) := by decide +kernel
theorem dX8_takerAt_4 : decode cX8_takerAt 4 = .ok (.iload_n 1, 1) := by decide +kernel
theorem dX8_takerAt_5 : decode cX8_takerAt 5 = .ok (.aload_n 0, 1) := by decide +kernel
theorem dX8_takerAt_6 : decode cX8_takerAt 6 = .ok (.getfield 28, 3) := by decide +kernel
theorem dX8_takerAt_9 : decode cX8_takerAt 9 = .ok (.if_icmp .ge 12, 3) := by decide +kernel
theorem dX8_takerAt_12 : decode cX8_takerAt 12 = .ok (.aload_n 0, 1) := by decide +kernel
theorem dX8_takerAt_13 : decode cX8_takerAt 13 = .ok (.getfield 17, 3) := by decide +kernel
theorem dX8_takerAt_16 : decode cX8_takerAt 16 = .ok (.iload_n 1, 1) := by decide +kernel
theorem dX8_takerAt_17 : decode cX8_takerAt 17 = .ok (.aaload, 1) := by decide +kernel
theorem dX8_takerAt_18 : decode cX8_takerAt 18 = .ok (.goto 4, 3) := by decide +kernel
theorem dX8_takerAt_21 : decode cX8_takerAt 21 = .ok (.aconst_null, 1) := by decide +kernel
theorem dX8_takerAt_22 : decode cX8_takerAt 22 = .ok (.areturn, 1) := by decide +kernel
theorem dX8_weightIn_0 : decode cX8_weightIn 0 = .ok (.aload_n 0, 1) := by decide +kernel
theorem dX8_weightIn_1 : decode cX8_weightIn 1 = .ok (.getfield 24, 3) := by decide +kernel
theorem dX8_weightIn_4 : decode cX8_weightIn 4 = .ok (.ifCond .le 21, 3) := by decide +kernel
theorem dX8_weightIn_7 : decode cX8_weightIn 7 = .ok (.iload_n 1, 1) := by decide +kernel
theorem dX8_weightIn_8 : decode cX8_weightIn 8 = .ok (.ifCond .lt 17, 3) := by decide +kernel
theorem dX8_weightIn_11 : decode cX8_weightIn 11 = .ok (.aload_n 0, 1) := by decide +kernel
theorem dX8_weightIn_12 : decode cX8_weightIn 12 = .ok (.getfield 9, 3) := by decide +kernel
theorem dX8_weightIn_15 : decode cX8_weightIn 15 = .ok (.iload_n 1, 1) := by decide +kernel
theorem dX8_weightIn_16 : decode cX8_weightIn 16 = .ok (.aload_n 0, 1) := by decide +kernel
theorem dX8_weightIn_17 : decode cX8_weightIn 17 = .ok (.getfield 24, 3) := by decide +kernel
theorem dX8_weightIn_20 : decode cX8_weightIn 20 = .ok (.irem, 1) := by decide +kernel
theorem dX8_weightIn_21 : decode cX8_weightIn 21 = .ok (.iaload, 1) := by decide +kernel
theorem dX8_weightIn_22 : decode cX8_weightIn 22 = .ok (.goto 4, 3) := by decide +kernel
theorem dX8_weightIn_25 : decode cX8_weightIn 25 = .ok (.iconst 0, 1) := by decide +kernel
theorem dX8_weightIn_26 : decode cX8_weightIn 26 = .ok (.ireturn, 1) := by decide +kernel
theorem dX8_heldAlone_0 : decode cX8_heldAlone 0 = .ok (.aload_n 1, 1) := by decide +kernel
theorem dX8_heldAlone_1 : decode cX8_heldAlone 1 = .ok (.getfield 34, 3) := by decide +kernel
theorem dX8_heldAlone_4 : decode cX8_heldAlone 4 = .ok (.istore_n 3, 1) := by decide +kernel
theorem dX8_heldAlone_5 : decode cX8_heldAlone 5 = .ok (.iconst 0, 1) := by decide +kernel
theorem dX8_heldAlone_6 : decode cX8_heldAlone 6 = .ok (.istore 4, 2) := by decide +kernel
theorem dX8_heldAlone_8 : decode cX8_heldAlone 8 = .ok (.iload 4, 2) := by decide +kernel
theorem dX8_heldAlone_10 : decode cX8_heldAlone 10 = .ok (.bipush 40, 2) := by decide +kernel
theorem dX8_heldAlone_12 : decode cX8_heldAlone 12 = .ok (.if_icmp .ge 31, 3) := by decide +kernel
theorem dX8_heldAlone_15 : decode cX8_heldAlone 15 = .ok (.iload_n 3, 1) := by decide +kernel
theorem dX8_heldAlone_16 : decode cX8_heldAlone 16 = .ok (.aload_n 1, 1) := by decide +kernel
theorem dX8_heldAlone_17 : decode cX8_heldAlone 17 = .ok (.aload_n 0, 1) := by decide +kernel
theorem dX8_heldAlone_18 : decode cX8_heldAlone 18 = .ok (.iload_n 2, 1) := by decide +kernel
theorem dX8_heldAlone_19 : decode cX8_heldAlone 19 = .ok (.iload 4, 2) := by decide +kernel
theorem dX8_heldAlone_21 : decode cX8_heldAlone 21 = .ok (.iadd, 1) := by decide +kernel
theorem dX8_heldAlone_22 : decode cX8_heldAlone 22 = .ok (.invokevirtual 37, 3) := by decide +kernel
theorem dX8_heldAlone_25 : decode cX8_heldAlone 25 = .ok (.invokevirtual 41, 3) := by decide +kernel
theorem dX8_heldAlone_28 : decode cX8_heldAlone 28 = .ok (.isub, 1) := by decide +kernel
theorem dX8_heldAlone_29 : decode cX8_heldAlone 29 = .ok (.istore_n 3, 1) := by decide +kernel
theorem dX8_heldAlone_30 : decode cX8_heldAlone 30 = .ok (.iload_n 3, 1) := by decide +kernel
theorem dX8_heldAlone_31 : decode cX8_heldAlone 31 = .ok (.ifCond .ge 6, 3) := by decide +kernel
theorem dX8_heldAlone_34 : decode cX8_heldAlone 34 = .ok (.iload 4, 2) := by decide +kernel
theorem dX8_heldAlone_36 : decode cX8_heldAlone 36 = .ok (.ireturn, 1) := by decide +kernel
theorem dX8_heldAlone_37 : decode cX8_heldAlone 37 = .ok (.iinc 4 1, 3) := by decide +kernel
theorem dX8_heldAlone_40 : decode cX8_heldAlone 40 = .ok (.goto (-32), 3) := by decide +kernel
theorem dX8_heldAlone_43 : decode cX8_heldAlone 43 = .ok (.bipush 40, 2) := by decide +kernel
theorem dX8_heldAlone_45 : decode cX8_heldAlone 45 = .ok (.ireturn, 1) := by decide +kernel
theorem dX8_heldInPair_0 : decode cX8_heldInPair 0 = .ok (.aload_n 1, 1) := by decide +kernel
theorem dX8_heldInPair_1 : decode cX8_heldInPair 1 = .ok (.getfield 34, 3) := by decide +kernel
theorem dX8_heldInPair_4 : decode cX8_heldInPair 4 = .ok (.istore_n 3, 1) := by decide +kernel
theorem dX8_heldInPair_5 : decode cX8_heldInPair 5 = .ok (.iconst 0, 1) := by decide +kernel
theorem dX8_heldInPair_6 : decode cX8_heldInPair 6 = .ok (.istore 4, 2) := by decide +kernel
theorem dX8_heldInPair_8 : decode cX8_heldInPair 8 = .ok (.iload 4, 2) := by decide +kernel
theorem dX8_heldInPair_10 : decode cX8_heldInPair 10 = .ok (.bipush 40, 2) := by decide +kernel
theorem dX8_heldInPair_12 : decode cX8_heldInPair 12 = .ok (.if_icmp .ge 33, 3) := by decide +kernel
theorem dX8_heldInPair_15 : decode cX8_heldInPair 15 = .ok (.iload_n 3, 1) := by decide +kernel
theorem dX8_heldInPair_16 : decode cX8_heldInPair 16 = .ok (.aload_n 1, 1) := by decide +kernel
theorem dX8_heldInPair_17 : decode cX8_heldInPair 17 = .ok (.aload_n 0, 1) := by decide +kernel
theorem dX8_heldInPair_18 : decode cX8_heldInPair 18 = .ok (.iload_n 2, 1) := by decide +kernel
theorem dX8_heldInPair_19 : decode cX8_heldInPair 19 = .ok (.iload 4, 2) := by decide +kernel
theorem dX8_heldInPair_21 : decode cX8_heldInPair 21 = .ok (.iadd, 1) := by decide +kernel
theorem dX8_heldInPair_22 : decode cX8_heldInPair 22 = .ok (.invokevirtual 37, 3) := by decide +kernel
theorem dX8_heldInPair_25 : decode cX8_heldInPair 25 = .ok (.invokevirtual 41, 3) := by decide +kernel
theorem dX8_heldInPair_28 : decode cX8_heldInPair 28 = .ok (.iconst 2, 1) := by decide +kernel
theorem dX8_heldInPair_29 : decode cX8_heldInPair 29 = .ok (.idiv, 1) := by decide +kernel
theorem dX8_heldInPair_30 : decode cX8_heldInPair 30 = .ok (.isub, 1) := by decide +kernel
theorem dX8_heldInPair_31 : decode cX8_heldInPair 31 = .ok (.istore_n 3, 1) := by decide +kernel
theorem dX8_heldInPair_32 : decode cX8_heldInPair 32 = .ok (.iload_n 3, 1) := by decide +kernel
theorem dX8_heldInPair_33 : decode cX8_heldInPair 33 = .ok (.ifCond .ge 6, 3) := by decide +kernel
theorem dX8_heldInPair_36 : decode cX8_heldInPair 36 = .ok (.iload 4, 2) := by decide +kernel
theorem dX8_heldInPair_38 : decode cX8_heldInPair 38 = .ok (.ireturn, 1) := by decide +kernel
theorem dX8_heldInPair_39 : decode cX8_heldInPair 39 = .ok (.iinc 4 1, 3) := by decide +kernel
theorem dX8_heldInPair_42 : decode cX8_heldInPair 42 = .ok (.goto (-34), 3) := by decide +kernel
theorem dX8_heldInPair_45 : decode cX8_heldInPair 45 = .ok (.bipush 40, 2) := by decide +kernel
theorem dX8_heldInPair_47 : decode cX8_heldInPair 47 = .ok (.ireturn, 1) := by decide +kernel
theorem dX8_heldByTwo_0 : decode cX8_heldByTwo 0 = .ok (.aload_n 0, 1) := by decide +kernel
theorem dX8_heldByTwo_1 : decode cX8_heldByTwo 1 = .ok (.aload_n 1, 1) := by decide +kernel
theorem dX8_heldByTwo_2 : decode cX8_heldByTwo 2 = .ok (.iload_n 3, 1) := by decide +kernel
theorem dX8_heldByTwo_3 : decode cX8_heldByTwo 3 = .ok (.invokevirtual 44, 3) := by decide +kernel
theorem dX8_heldByTwo_6 : decode cX8_heldByTwo 6 = .ok (.aload_n 0, 1) := by decide +kernel
theorem dX8_heldByTwo_7 : decode cX8_heldByTwo 7 = .ok (.aload_n 2, 1) := by decide +kernel
theorem dX8_heldByTwo_8 : decode cX8_heldByTwo 8 = .ok (.iload_n 3, 1) := by decide +kernel
theorem dX8_heldByTwo_9 : decode cX8_heldByTwo 9 = .ok (.invokevirtual 44, 3) := by decide +kernel
theorem dX8_heldByTwo_12 : decode cX8_heldByTwo 12 = .ok (.invokestatic 48, 3) := by decide +kernel
theorem dX8_heldByTwo_15 : decode cX8_heldByTwo 15 = .ok (.ireturn, 1) := by decide +kernel
theorem dX8_bestPlace_0 : decode cX8_bestPlace 0 = .ok (.iconst 0, 1) := by decide +kernel
theorem dX8_bestPlace_1 : decode cX8_bestPlace 1 = .ok (.istore_n 2, 1) := by decide +kernel
theorem dX8_bestPlace_2 : decode cX8_bestPlace 2 = .ok (.iconst (-1), 1) := by decide +kernel
theorem dX8_bestPlace_3 : decode cX8_bestPlace 3 = .ok (.istore_n 3, 1) := by decide +kernel
theorem dX8_bestPlace_4 : decode cX8_bestPlace 4 = .ok (.iconst 0, 1) := by decide +kernel
theorem dX8_bestPlace_5 : decode cX8_bestPlace 5 = .ok (.istore 4, 2) := by decide +kernel
theorem dX8_bestPlace_7 : decode cX8_bestPlace 7 = .ok (.iload 4, 2) := by decide +kernel
theorem dX8_bestPlace_9 : decode cX8_bestPlace 9 = .ok (.aload_n 0, 1) := by decide +kernel
theorem dX8_bestPlace_10 : decode cX8_bestPlace 10 = .ok (.getfield 24, 3) := by decide +kernel
theorem dX8_bestPlace_13 : decode cX8_bestPlace 13 = .ok (.if_icmp .ge 30, 3) := by decide +kernel
theorem dX8_bestPlace_16 : decode cX8_bestPlace 16 = .ok (.aload_n 0, 1) := by decide +kernel
theorem dX8_bestPlace_17 : decode cX8_bestPlace 17 = .ok (.aload_n 1, 1) := by decide +kernel
theorem dX8_bestPlace_18 : decode cX8_bestPlace 18 = .ok (.iload 4, 2) := by decide +kernel
theorem dX8_bestPlace_20 : decode cX8_bestPlace 20 = .ok (.invokevirtual 54, 3) := by decide +kernel
theorem dX8_bestPlace_23 : decode cX8_bestPlace 23 = .ok (.istore 5, 2) := by decide +kernel
theorem dX8_bestPlace_25 : decode cX8_bestPlace 25 = .ok (.iload 5, 2) := by decide +kernel
theorem dX8_bestPlace_27 : decode cX8_bestPlace 27 = .ok (.iload_n 3, 1) := by decide +kernel
theorem dX8_bestPlace_28 : decode cX8_bestPlace 28 = .ok (.if_icmp .le 9, 3) := by decide +kernel
theorem dX8_bestPlace_31 : decode cX8_bestPlace 31 = .ok (.iload 5, 2) := by decide +kernel
theorem dX8_bestPlace_33 : decode cX8_bestPlace 33 = .ok (.istore_n 3, 1) := by decide +kernel
theorem dX8_bestPlace_34 : decode cX8_bestPlace 34 = .ok (.iload 4, 2) := by decide +kernel
theorem dX8_bestPlace_36 : decode cX8_bestPlace 36 = .ok (.istore_n 2, 1) := by decide +kernel
theorem dX8_bestPlace_37 : decode cX8_bestPlace 37 = .ok (.iinc 4 1, 3) := by decide +kernel
theorem dX8_bestPlace_40 : decode cX8_bestPlace 40 = .ok (.goto (-33), 3) := by decide +kernel
theorem dX8_bestPlace_43 : decode cX8_bestPlace 43 = .ok (.iload_n 2, 1) := by decide +kernel
theorem dX8_bestPlace_44 : decode cX8_bestPlace 44 = .ok (.ireturn, 1) := by decide +kernel
theorem dX8_bestFriend_0 : decode cX8_bestFriend 0 = .ok (.bipush (-9), 2) := by decide +kernel
theorem dX8_bestFriend_2 : decode cX8_bestFriend 2 = .ok (.istore_n 3, 1) := by decide +kernel
theorem dX8_bestFriend_3 : decode cX8_bestFriend 3 = .ok (.iconst (-1), 1) := by decide +kernel
theorem dX8_bestFriend_4 : decode cX8_bestFriend 4 = .ok (.istore 4, 2) := by decide +kernel
theorem dX8_bestFriend_6 : decode cX8_bestFriend 6 = .ok (.iconst 0, 1) := by decide +kernel
theorem dX8_bestFriend_7 : decode cX8_bestFriend 7 = .ok (.istore 5, 2) := by decide +kernel
theorem dX8_bestFriend_9 : decode cX8_bestFriend 9 = .ok (.iload 5, 2) := by decide +kernel
theorem dX8_bestFriend_11 : decode cX8_bestFriend 11 = .ok (.aload_n 0, 1) := by decide +kernel
theorem dX8_bestFriend_12 : decode cX8_bestFriend 12 = .ok (.getfield 28, 3) := by decide +kernel
theorem dX8_bestFriend_15 : decode cX8_bestFriend 15 = .ok (.if_icmp .ge 59, 3) := by decide +kernel
theorem dX8_bestFriend_18 : decode cX8_bestFriend 18 = .ok (.aload_n 0, 1) := by decide +kernel
theorem dX8_bestFriend_19 : decode cX8_bestFriend 19 = .ok (.iload 5, 2) := by decide +kernel
theorem dX8_bestFriend_21 : decode cX8_bestFriend 21 = .ok (.invokevirtual 57, 3) := by decide +kernel
theorem dX8_bestFriend_24 : decode cX8_bestFriend 24 = .ok (.astore 6, 2) := by decide +kernel
theorem dX8_bestFriend_26 : decode cX8_bestFriend 26 = .ok (.aload 6, 2) := by decide +kernel
theorem dX8_bestFriend_28 : decode cX8_bestFriend 28 = .ok (.ifnull 12, 3) := by decide +kernel
theorem dX8_bestFriend_31 : decode cX8_bestFriend 31 = .ok (.iload 5, 2) := by decide +kernel
theorem dX8_bestFriend_33 : decode cX8_bestFriend 33 = .ok (.aload_n 1, 1) := by decide +kernel
theorem dX8_bestFriend_34 : decode cX8_bestFriend 34 = .ok (.getfield 61, 3) := by decide +kernel
theorem dX8_bestFriend_37 : decode cX8_bestFriend 37 = .ok (.if_icmp .ne 7, 3) := by decide +kernel
theorem dX8_bestFriend_40 : decode cX8_bestFriend 40 = .ok (.iconst (-1), 1) := by decide +kernel
theorem dX8_bestFriend_41 : decode cX8_bestFriend 41 = .ok (.goto 11, 3) := by decide +kernel
theorem dX8_bestFriend_44 : decode cX8_bestFriend 44 = .ok (.aload_n 0, 1) := by decide +kernel
theorem dX8_bestFriend_45 : decode cX8_bestFriend 45 = .ok (.aload_n 1, 1) := by decide +kernel
theorem dX8_bestFriend_46 : decode cX8_bestFriend 46 = .ok (.aload 6, 2) := by decide +kernel
theorem dX8_bestFriend_48 : decode cX8_bestFriend 48 = .ok (.iload_n 2, 1) := by decide +kernel
theorem dX8_bestFriend_49 : decode cX8_bestFriend 49 = .ok (.invokevirtual 64, 3) := by decide +kernel
theorem dX8_bestFriend_52 : decode cX8_bestFriend 52 = .ok (.istore 7, 2) := by decide +kernel
theorem dX8_bestFriend_54 : decode cX8_bestFriend 54 = .ok (.iload 7, 2) := by decide +kernel
theorem dX8_bestFriend_56 : decode cX8_bestFriend 56 = .ok (.iload 4, 2) := by decide +kernel
theorem dX8_bestFriend_58 : decode cX8_bestFriend 58 = .ok (.if_icmp .le 10, 3) := by decide +kernel
theorem dX8_bestFriend_61 : decode cX8_bestFriend 61 = .ok (.iload 7, 2) := by decide +kernel
theorem dX8_bestFriend_63 : decode cX8_bestFriend 63 = .ok (.istore 4, 2) := by decide +kernel
theorem dX8_bestFriend_65 : decode cX8_bestFriend 65 = .ok (.iload 5, 2) := by decide +kernel
theorem dX8_bestFriend_67 : decode cX8_bestFriend 67 = .ok (.istore_n 3, 1) := by decide +kernel
theorem dX8_bestFriend_68 : decode cX8_bestFriend 68 = .ok (.iinc 5 1, 3) := by decide +kernel
theorem dX8_bestFriend_71 : decode cX8_bestFriend 71 = .ok (.goto (-62), 3) := by decide +kernel
theorem dX8_bestFriend_74 : decode cX8_bestFriend 74 = .ok (.iload_n 3, 1) := by decide +kernel
theorem dX8_bestFriend_75 : decode cX8_bestFriend 75 = .ok (.ireturn, 1) := by decide +kernel
theorem dX8_goodsGot_0 : decode cX8_goodsGot 0 = .ok (.aload_n 0, 1) := by decide +kernel
theorem dX8_goodsGot_1 : decode cX8_goodsGot 1 = .ok (.aload_n 1, 1) := by decide +kernel
theorem dX8_goodsGot_2 : decode cX8_goodsGot 2 = .ok (.iload_n 2, 1) := by decide +kernel
theorem dX8_goodsGot_3 : decode cX8_goodsGot 3 = .ok (.invokevirtual 54, 3) := by decide +kernel
theorem dX8_goodsGot_6 : decode cX8_goodsGot 6 = .ok (.istore_n 3, 1) := by decide +kernel
theorem dX8_goodsGot_7 : decode cX8_goodsGot 7 = .ok (.iconst 0, 1) := by decide +kernel
theorem dX8_goodsGot_8 : decode cX8_goodsGot 8 = .ok (.istore 4, 2) := by decide +kernel
theorem dX8_goodsGot_10 : decode cX8_goodsGot 10 = .ok (.iconst 0, 1) := by decide +kernel
theorem dX8_goodsGot_11 : decode cX8_goodsGot 11 = .ok (.istore 5, 2) := by decide +kernel
theorem dX8_goodsGot_13 : decode cX8_goodsGot 13 = .ok (.iload 5, 2) := by decide +kernel
theorem dX8_goodsGot_15 : decode cX8_goodsGot 15 = .ok (.aload_n 0, 1) := by decide +kernel
theorem dX8_goodsGot_16 : decode cX8_goodsGot 16 = .ok (.getfield 31, 3) := by decide +kernel
theorem dX8_goodsGot_19 : decode cX8_goodsGot 19 = .ok (.if_icmp .ge 31, 3) := by decide +kernel
theorem dX8_goodsGot_22 : decode cX8_goodsGot 22 = .ok (.iload_n 3, 1) := by decide +kernel
theorem dX8_goodsGot_23 : decode cX8_goodsGot 23 = .ok (.iconst 2, 1) := by decide +kernel
theorem dX8_goodsGot_24 : decode cX8_goodsGot 24 = .ok (.aload_n 0, 1) := by decide +kernel
theorem dX8_goodsGot_25 : decode cX8_goodsGot 25 = .ok (.getfield 21, 3) := by decide +kernel
theorem dX8_goodsGot_28 : decode cX8_goodsGot 28 = .ok (.iload 5, 2) := by decide +kernel
theorem dX8_goodsGot_30 : decode cX8_goodsGot 30 = .ok (.iaload, 1) := by decide +kernel
theorem dX8_goodsGot_31 : decode cX8_goodsGot 31 = .ok (.imul, 1) := by decide +kernel
theorem dX8_goodsGot_32 : decode cX8_goodsGot 32 = .ok (.if_icmp .lt 12, 3) := by decide +kernel
theorem dX8_goodsGot_35 : decode cX8_goodsGot 35 = .ok (.iload 4, 2) := by decide +kernel
theorem dX8_goodsGot_37 : decode cX8_goodsGot 37 = .ok (.iconst 1, 1) := by decide +kernel
theorem dX8_goodsGot_38 : decode cX8_goodsGot 38 = .ok (.iload 5, 2) := by decide +kernel
theorem dX8_goodsGot_40 : decode cX8_goodsGot 40 = .ok (.ishl, 1) := by decide +kernel
theorem dX8_goodsGot_41 : decode cX8_goodsGot 41 = .ok (.ior, 1) := by decide +kernel
theorem dX8_goodsGot_42 : decode cX8_goodsGot 42 = .ok (.istore 4, 2) := by decide +kernel
theorem dX8_goodsGot_44 : decode cX8_goodsGot 44 = .ok (.iinc 5 1, 3) := by decide +kernel
theorem dX8_goodsGot_47 : decode cX8_goodsGot 47 = .ok (.goto (-34), 3) := by decide +kernel
theorem dX8_goodsGot_50 : decode cX8_goodsGot 50 = .ok (.iload 4, 2) := by decide +kernel
theorem dX8_goodsGot_52 : decode cX8_goodsGot 52 = .ok (.ireturn, 1) := by decide +kernel
theorem dX8_setsHeld_0 : decode cX8_setsHeld 0 = .ok (.iconst 0, 1) := by decide +kernel
theorem dX8_setsHeld_1 : decode cX8_setsHeld 1 = .ok (.istore_n 3, 1) := by decide +kernel
theorem dX8_setsHeld_2 : decode cX8_setsHeld 2 = .ok (.iconst 0, 1) := by decide +kernel
theorem dX8_setsHeld_3 : decode cX8_setsHeld 3 = .ok (.istore 4, 2) := by decide +kernel
theorem dX8_setsHeld_5 : decode cX8_setsHeld 5 = .ok (.iload 4, 2) := by decide +kernel
theorem dX8_setsHeld_7 : decode cX8_setsHeld 7 = .ok (.iconst 1, 1) := by decide +kernel
theorem dX8_setsHeld_8 : decode cX8_setsHeld 8 = .ok (.aload_n 0, 1) := by decide +kernel
theorem dX8_setsHeld_9 : decode cX8_setsHeld 9 = .ok (.getfield 24, 3) := by decide +kernel
theorem dX8_setsHeld_12 : decode cX8_setsHeld 12 = .ok (.ishl, 1) := by decide +kernel
theorem dX8_setsHeld_13 : decode cX8_setsHeld 13 = .ok (.if_icmp .ge 27, 3) := by decide +kernel
theorem dX8_setsHeld_16 : decode cX8_setsHeld 16 = .ok (.aload_n 0, 1) := by decide +kernel
theorem dX8_setsHeld_17 : decode cX8_setsHeld 17 = .ok (.iload 4, 2) := by decide +kernel
theorem dX8_setsHeld_19 : decode cX8_setsHeld 19 = .ok (.aload_n 1, 1) := by decide +kernel
theorem dX8_setsHeld_20 : decode cX8_setsHeld 20 = .ok (.iload_n 2, 1) := by decide +kernel
theorem dX8_setsHeld_21 : decode cX8_setsHeld 21 = .ok (.invokevirtual 68, 3) := by decide +kernel
theorem dX8_setsHeld_24 : decode cX8_setsHeld 24 = .ok (.aload_n 1, 1) := by decide +kernel
theorem dX8_setsHeld_25 : decode cX8_setsHeld 25 = .ok (.getfield 34, 3) := by decide +kernel
theorem dX8_setsHeld_28 : decode cX8_setsHeld 28 = .ok (.if_icmp .gt 6, 3) := by decide +kernel
theorem dX8_setsHeld_31 : decode cX8_setsHeld 31 = .ok (.iinc 3 1, 3) := by decide +kernel
theorem dX8_setsHeld_34 : decode cX8_setsHeld 34 = .ok (.iinc 4 1, 3) := by decide +kernel
theorem dX8_setsHeld_37 : decode cX8_setsHeld 37 = .ok (.goto (-32), 3) := by decide +kernel
theorem dX8_setsHeld_40 : decode cX8_setsHeld 40 = .ok (.iload_n 3, 1) := by decide +kernel
theorem dX8_setsHeld_41 : decode cX8_setsHeld 41 = .ok (.ireturn, 1) := by decide +kernel
theorem dX8_drainIfOnly_0 : decode cX8_drainIfOnly 0 = .ok (.iconst 0, 1) := by decide +kernel
theorem dX8_drainIfOnly_1 : decode cX8_drainIfOnly 1 = .ok (.istore 4, 2) := by decide +kernel
theorem dX8_drainIfOnly_3 : decode cX8_drainIfOnly 3 = .ok (.iconst 0, 1) := by decide +kernel
theorem dX8_drainIfOnly_4 : decode cX8_drainIfOnly 4 = .ok (.istore 5, 2) := by decide +kernel
theorem dX8_drainIfOnly_6 : decode cX8_drainIfOnly 6 = .ok (.iconst 0, 1) := by decide +kernel
theorem dX8_drainIfOnly_7 : decode cX8_drainIfOnly 7 = .ok (.istore 6, 2) := by decide +kernel
theorem dX8_drainIfOnly_9 : decode cX8_drainIfOnly 9 = .ok (.iload 6, 2) := by decide +kernel
theorem dX8_drainIfOnly_11 : decode cX8_drainIfOnly 11 = .ok (.iload_n 3, 1) := by decide +kernel
theorem dX8_drainIfOnly_12 : decode cX8_drainIfOnly 12 = .ok (.if_icmp .ge 71, 3) := by decide +kernel
theorem dX8_drainIfOnly_15 : decode cX8_drainIfOnly 15 = .ok (.iload_n 1, 1) := by decide +kernel
theorem dX8_drainIfOnly_16 : decode cX8_drainIfOnly 16 = .ok (.iload 5, 2) := by decide +kernel
theorem dX8_drainIfOnly_18 : decode cX8_drainIfOnly 18 = .ok (.ishr, 1) := by decide +kernel
theorem dX8_drainIfOnly_19 : decode cX8_drainIfOnly 19 = .ok (.iconst 1, 1) := by decide +kernel
theorem dX8_drainIfOnly_20 : decode cX8_drainIfOnly 20 = .ok (.iand, 1) := by decide +kernel
theorem dX8_drainIfOnly_21 : decode cX8_drainIfOnly 21 = .ok (.iconst 1, 1) := by decide +kernel
theorem dX8_drainIfOnly_22 : decode cX8_drainIfOnly 22 = .ok (.if_icmp .ne 7, 3) := by decide +kernel
theorem dX8_drainIfOnly_25 : decode cX8_drainIfOnly 25 = .ok (.iconst 1, 1) := by decide +kernel
theorem dX8_drainIfOnly_26 : decode cX8_drainIfOnly 26 = .ok (.goto 4, 3) := by decide +kernel
theorem dX8_drainIfOnly_29 : decode cX8_drainIfOnly 29 = .ok (.iconst 0, 1) := by decide +kernel
theorem dX8_drainIfOnly_30 : decode cX8_drainIfOnly 30 = .ok (.istore 7, 2) := by decide +kernel
theorem dX8_drainIfOnly_32 : decode cX8_drainIfOnly 32 = .ok (.iload 4, 2) := by decide +kernel
theorem dX8_drainIfOnly_34 : decode cX8_drainIfOnly 34 = .ok (.aload_n 2, 1) := by decide +kernel
theorem dX8_drainIfOnly_35 : decode cX8_drainIfOnly 35 = .ok (.iload 7, 2) := by decide +kernel
theorem dX8_drainIfOnly_37 : decode cX8_drainIfOnly 37 = .ok (.ifCond .eq 12, 3) := by decide +kernel
theorem dX8_drainIfOnly_40 : decode cX8_drainIfOnly 40 = .ok (.aload_n 0, 1) := by decide +kernel
theorem dX8_drainIfOnly_41 : decode cX8_drainIfOnly 41 = .ok (.iload 5, 2) := by decide +kernel
theorem dX8_drainIfOnly_43 : decode cX8_drainIfOnly 43 = .ok (.invokevirtual 37, 3) := by decide +kernel
theorem dX8_drainIfOnly_46 : decode cX8_drainIfOnly 46 = .ok (.goto 4, 3) := by decide +kernel
theorem dX8_drainIfOnly_49 : decode cX8_drainIfOnly 49 = .ok (.iconst 0, 1) := by decide +kernel
theorem dX8_drainIfOnly_50 : decode cX8_drainIfOnly 50 = .ok (.invokevirtual 41, 3) := by decide +kernel
theorem dX8_drainIfOnly_53 : decode cX8_drainIfOnly 53 = .ok (.iadd, 1) := by decide +kernel
theorem dX8_drainIfOnly_54 : decode cX8_drainIfOnly 54 = .ok (.istore 4, 2) := by decide +kernel
theorem dX8_drainIfOnly_56 : decode cX8_drainIfOnly 56 = .ok (.iload 5, 2) := by decide +kernel
theorem dX8_drainIfOnly_58 : decode cX8_drainIfOnly 58 = .ok (.iconst 1, 1) := by decide +kernel
theorem dX8_drainIfOnly_59 : decode cX8_drainIfOnly 59 = .ok (.iadd, 1) := by decide +kernel
theorem dX8_drainIfOnly_60 : decode cX8_drainIfOnly 60 = .ok (.aload_n 0, 1) := by decide +kernel
theorem dX8_drainIfOnly_61 : decode cX8_drainIfOnly 61 = .ok (.getfield 24, 3) := by decide +kernel
theorem dX8_drainIfOnly_64 : decode cX8_drainIfOnly 64 = .ok (.if_icmp .ge 10, 3) := by decide +kernel
theorem dX8_drainIfOnly_67 : decode cX8_drainIfOnly 67 = .ok (.iload 5, 2) := by decide +kernel
theorem dX8_drainIfOnly_69 : decode cX8_drainIfOnly 69 = .ok (.iconst 1, 1) := by decide +kernel
theorem dX8_drainIfOnly_70 : decode cX8_drainIfOnly 70 = .ok (.iadd, 1) := by decide +kernel
theorem dX8_drainIfOnly_71 : decode cX8_drainIfOnly 71 = .ok (.goto 4, 3) := by decide +kernel
theorem dX8_drainIfOnly_74 : decode cX8_drainIfOnly 74 = .ok (.iconst 0, 1) := by decide +kernel
theorem dX8_drainIfOnly_75 : decode cX8_drainIfOnly 75 = .ok (.istore 5, 2) := by decide +kernel
theorem dX8_drainIfOnly_77 : decode cX8_drainIfOnly 77 = .ok (.iinc 6 1, 3) := by decide +kernel
theorem dX8_drainIfOnly_80 : decode cX8_drainIfOnly 80 = .ok (.goto (-71), 3) := by decide +kernel
theorem dX8_drainIfOnly_83 : decode cX8_drainIfOnly 83 = .ok (.iload 4, 2) := by decide +kernel
theorem dX8_drainIfOnly_85 : decode cX8_drainIfOnly 85 = .ok (.ireturn, 1) := by decide +kernel
theorem dX9_init_0 : decode cX9_init 0 = .ok (.aload_n 0, 1) := by decide +kernel
theorem dX9_init_1 : decode cX9_init 1 = .ok (.iload_n 1, 1) := by decide +kernel
theorem dX9_init_2 : decode cX9_init 2 = .ok (.iload_n 2, 1) := by decide +kernel
theorem dX9_init_3 : decode cX9_init 3 = .ok (.iload_n 3, 1) := by decide +kernel
theorem dX9_init_4 : decode cX9_init 4 = .ok (.invokespecial 3, 3) := by decide +kernel
theorem dX9_init_7 : decode cX9_init 7 = .ok (.return_, 1) := by decide +kernel
theorem dX9_kindNumber_0 : decode cX9_kindNumber 0 = .ok (.iconst 2, 1) := by decide +kernel
theorem dX9_kindNumber_1 : decode cX9_kindNumber 1 = .ok (.ireturn, 1) := by decide +kernel
theorem dX9_drainBy_0 : decode cX9_drainBy 0 = .ok (.iload_n 1, 1) := by decide +kernel
theorem dX9_drainBy_1 : decode cX9_drainBy 1 = .ok (.aload_n 0, 1) := by decide +kernel
theorem dX9_drainBy_2 : decode cX9_drainBy 2 = .ok (.getfield 9, 3) := by decide +kernel
theorem dX9_drainBy_5 : decode cX9_drainBy 5 = .ok (.iadd, 1) := by decide +kernel
theorem dX9_drainBy_6 : decode cX9_drainBy 6 = .ok (.iconst 2, 1) := by decide +kernel
theorem dX9_drainBy_7 : decode cX9_drainBy 7 = .ok (.idiv, 1) := by decide +kernel
theorem dX9_drainBy_8 : decode cX9_drainBy 8 = .ok (.ireturn, 1) := by decide +kernel
theorem dX9_telling_0 : decode cX9_telling 0 = .ok (.aload_n 1, 1) := by decide +kernel
theorem dX9_telling_1 : decode cX9_telling 1 = .ok (.iconst 3, 1) := by decide +kernel
theorem dX9_telling_2 : decode cX9_telling 2 = .ok (.invokevirtual 15, 3) := by decide +kernel
theorem dX9_telling_5 : decode cX9_telling 5 = .ok (.aload_n 0, 1) := by decide +kernel
theorem dX9_telling_6 : decode cX9_telling 6 = .ok (.aload_n 1, 1) := by decide +kernel
theorem dX9_telling_7 : decode cX9_telling 7 = .ok (.invokespecial 21, 3) := by decide +kernel
theorem dX9_telling_10 : decode cX9_telling 10 = .ok (.istore_n 2, 1) := by decide +kernel
theorem dX9_telling_11 : decode cX9_telling 11 = .ok (.iload_n 2, 1) := by decide +kernel
theorem dX9_telling_12 : decode cX9_telling 12 = .ok (.aload_n 0, 1) := by decide +kernel
theorem dX9_telling_13 : decode cX9_telling 13 = .ok (.aload_n 1, 1) := by decide +kernel
theorem dX9_telling_14 : decode cX9_telling 14 = .ok (.invokevirtual 25, 3) := by decide +kernel
theorem dX9_telling_17 : decode cX9_telling 17 = .ok (.iadd, 1) := by decide +kernel
theorem dX9_telling_18 : decode cX9_telling 18 = .ok (.ireturn, 1) := by decide +kernel
theorem dX9_rung_0 : decode cX9_rung 0 = .ok (.aload_n 1, 1) := by decide +kernel
theorem dX9_rung_1 : decode cX9_rung 1 = .ok (.iconst 5, 1) := by decide +kernel
theorem dX9_rung_2 : decode cX9_rung 2 = .ok (.invokevirtual 15, 3) := by decide +kernel
theorem dX9_rung_5 : decode cX9_rung 5 = .ok (.bipush 40, 2) := by decide +kernel
theorem dX9_rung_7 : decode cX9_rung 7 = .ok (.ireturn, 1) := by decide +kernel
theorem dX10_init_0 : decode cX10_init 0 = .ok (.aload_n 0, 1) := by decide +kernel
theorem dX10_init_1 : decode cX10_init 1 = .ok (.invokespecial 3, 3) := by decide +kernel
theorem dX10_init_4 : decode cX10_init 4 = .ok (.aload_n 0, 1) := by decide +kernel
theorem dX10_init_5 : decode cX10_init 5 = .ok (.iconst 4, 1) := by decide +kernel
theorem dX10_init_6 : decode cX10_init 6 = .ok (.anewarray 11, 3) := by decide +kernel
theorem dX10_init_9 : decode cX10_init 9 = .ok (.putfield 13, 3) := by decide +kernel
theorem dX10_init_12 : decode cX10_init 12 = .ok (.aload_n 0, 1) := by decide +kernel
theorem dX10_init_13 : decode cX10_init 13 = .ok (.new 17, 3) := by decide +kernel
theorem dX10_init_16 : decode cX10_init 16 = .ok (.dup, 1) := by decide +kernel
theorem dX10_init_17 : decode cX10_init 17 = .ok (.invokespecial 19, 3) := by decide +kernel
theorem dX10_init_20 : decode cX10_init 20 = .ok (.putfield 20, 3) := by decide +kernel
theorem dX10_init_23 : decode cX10_init 23 = .ok (.aload_n 0, 1) := by decide +kernel
theorem dX10_init_24 : decode cX10_init 24 = .ok (.new 24, 3) := by decide +kernel
theorem dX10_init_27 : decode cX10_init 27 = .ok (.dup, 1) := by decide +kernel
theorem dX10_init_28 : decode cX10_init 28 = .ok (.invokespecial 26, 3) := by decide +kernel
theorem dX10_init_31 : decode cX10_init 31 = .ok (.putfield 27, 3) := by decide +kernel
theorem dX10_init_34 : decode cX10_init 34 = .ok (.aload_n 0, 1) := by decide +kernel
theorem dX10_init_35 : decode cX10_init 35 = .ok (.new 31, 3) := by decide +kernel
theorem dX10_init_38 : decode cX10_init 38 = .ok (.dup, 1) := by decide +kernel
theorem dX10_init_39 : decode cX10_init 39 = .ok (.invokespecial 33, 3) := by decide +kernel
theorem dX10_init_42 : decode cX10_init 42 = .ok (.putfield 34, 3) := by decide +kernel
theorem dX10_init_45 : decode cX10_init 45 = .ok (.aload_n 0, 1) := by decide +kernel
theorem dX10_init_46 : decode cX10_init 46 = .ok (.new 38, 3) := by decide +kernel
theorem dX10_init_49 : decode cX10_init 49 = .ok (.dup, 1) := by decide +kernel
theorem dX10_init_50 : decode cX10_init 50 = .ok (.invokespecial 40, 3) := by decide +kernel
theorem dX10_init_53 : decode cX10_init 53 = .ok (.putfield 41, 3) := by decide +kernel
theorem dX10_init_56 : decode cX10_init 56 = .ok (.aload_n 0, 1) := by decide +kernel
theorem dX10_init_57 : decode cX10_init 57 = .ok (.new 45, 3) := by decide +kernel
theorem dX10_init_60 : decode cX10_init 60 = .ok (.dup, 1) := by decide +kernel
theorem dX10_init_61 : decode cX10_init 61 = .ok (.invokespecial 47, 3) := by decide +kernel
theorem dX10_init_64 : decode cX10_init 64 = .ok (.putfield 48, 3) := by decide +kernel
theorem dX10_init_67 : decode cX10_init 67 = .ok (.aload_n 0, 1) := by decide +kernel
theorem dX10_init_68 : decode cX10_init 68 = .ok (.new 52, 3) := by decide +kernel
theorem dX10_init_71 : decode cX10_init 71 = .ok (.dup, 1) := by decide +kernel
theorem dX10_init_72 : decode cX10_init 72 = .ok (.invokespecial 54, 3) := by decide +kernel
theorem dX10_init_75 : decode cX10_init 75 = .ok (.putfield 55, 3) := by decide +kernel
theorem dX10_init_78 : decode cX10_init 78 = .ok (.aload_n 0, 1) := by decide +kernel
theorem dX10_init_79 : decode cX10_init 79 = .ok (.iconst 0, 1) := by decide +kernel
theorem dX10_init_80 : decode cX10_init 80 = .ok (.putfield 59, 3) := by decide +kernel
theorem dX10_init_83 : decode cX10_init 83 = .ok (.return_, 1) := by decide +kernel
theorem dX10_vault_0 : decode cX10_vault 0 = .ok (.aload_n 0, 1) := by decide +kernel
theorem dX10_vault_1 : decode cX10_vault 1 = .ok (.iconst 0, 1) := by decide +kernel
theorem dX10_vault_2 : decode cX10_vault 2 = .ok (.putfield 59, 3) := by decide +kernel
theorem dX10_vault_5 : decode cX10_vault 5 = .ok (.iload_n 1, 1) := by decide +kernel
theorem dX10_vault_6 : decode cX10_vault 6 = .ok (.invokestatic 63, 3) := by decide +kernel
theorem dX10_vault_9 : decode cX10_vault 9 = .ok (.ifCond .ne 5, 3) := by decide +kernel
theorem dX10_vault_12 : decode cX10_vault 12 = .ok (.iconst (-1), 1) := by decide +kernel
theorem dX10_vault_13 : decode cX10_vault 13 = .ok (.ireturn, 1) := by decide +kernel
theorem dX10_vault_14 : decode cX10_vault 14 = .ok (.iload_n 2, 1) := by decide +kernel
theorem dX10_vault_15 : decode cX10_vault 15 = .ok (.invokestatic 67, 3) := by decide +kernel
theorem dX10_vault_18 : decode cX10_vault 18 = .ok (.ifCond .ne 6, 3) := by decide +kernel
theorem dX10_vault_21 : decode cX10_vault 21 = .ok (.bipush (-2), 2) := by decide +kernel
theorem dX10_vault_23 : decode cX10_vault 23 = .ok (.ireturn, 1) := by decide +kernel
theorem dX10_vault_24 : decode cX10_vault 24 = .ok (.aload_n 0, 1) := by decide +kernel
theorem dX10_vault_25 : decode cX10_vault 25 = .ok (.getfield 13, 3) := by decide +kernel
theorem dX10_vault_28 : decode cX10_vault 28 = .ok (.iload_n 1, 1) := by decide +kernel
theorem dX10_vault_29 : decode cX10_vault 29 = .ok (.aaload, 1) := by decide +kernel
theorem dX10_vault_30 : decode cX10_vault 30 = .ok (.astore 5, 2) := by decide +kernel
theorem dX10_vault_32 : decode cX10_vault 32 = .ok (.aload 5, 2) := by decide +kernel
theorem dX10_vault_34 : decode cX10_vault 34 = .ok (.ifnonnull 9, 3) := by decide +kernel
theorem dX10_vault_37 : decode cX10_vault 37 = .ok (.aload_n 0, 1) := by decide +kernel
theorem dX10_vault_38 : decode cX10_vault 38 = .ok (.iconst 1, 1) := by decide +kernel
theorem dX10_vault_39 : decode cX10_vault 39 = .ok (.invokevirtual 70, 3) := by decide +kernel
theorem dX10_vault_42 : decode cX10_vault 42 = .ok (.ireturn, 1) := by decide +kernel
theorem dX10_vault_43 : decode cX10_vault 43 = .ok (.aload 5, 2) := by decide +kernel
theorem dX10_vault_45 : decode cX10_vault 45 = .ok (.getfield 74, 3) := by decide +kernel
theorem dX10_vault_48 : decode cX10_vault 48 = .ok (.iload_n 2, 1) := by decide +kernel
theorem dX10_vault_49 : decode cX10_vault 49 = .ok (.if_icmp .eq 9, 3) := by decide +kernel
theorem dX10_vault_52 : decode cX10_vault 52 = .ok (.aload_n 0, 1) := by decide +kernel
theorem dX10_vault_53 : decode cX10_vault 53 = .ok (.iconst 2, 1) := by decide +kernel
theorem dX10_vault_54 : decode cX10_vault 54 = .ok (.invokevirtual 70, 3) := by decide +kernel
theorem dX10_vault_57 : decode cX10_vault 57 = .ok (.ireturn, 1) := by decide +kernel
theorem dX10_vault_58 : decode cX10_vault 58 = .ok (.iload 4, 2) := by decide +kernel
theorem dX10_vault_60 : decode cX10_vault 60 = .ok (.ifCond .ge 9, 3) := by decide +kernel
theorem dX10_vault_63 : decode cX10_vault 63 = .ok (.aload_n 0, 1) := by decide +kernel
theorem dX10_vault_64 : decode cX10_vault 64 = .ok (.iconst 4, 1) := by decide +kernel
theorem dX10_vault_65 : decode cX10_vault 65 = .ok (.invokevirtual 70, 3) := by decide +kernel
theorem dX10_vault_68 : decode cX10_vault 68 = .ok (.ireturn, 1) := by decide +kernel
theorem dX10_vault_69 : decode cX10_vault 69 = .ok (.aload 5, 2) := by decide +kernel
theorem dX10_vault_71 : decode cX10_vault 71 = .ok (.iload_n 3, 1) := by decide +kernel
theorem dX10_vault_72 : decode cX10_vault 72 = .ok (.iload 4, 2) := by decide +kernel
theorem dX10_vault_74 : decode cX10_vault 74 = .ok (.invokevirtual 77, 3) := by decide +kernel
theorem dX10_vault_77 : decode cX10_vault 77 = .ok (.ifCond .ne 9, 3) := by decide +kernel
theorem dX10_vault_80 : decode cX10_vault 80 = .ok (.aload_n 0, 1) := by decide +kernel
theorem dX10_vault_81 : decode cX10_vault 81 = .ok (.iconst 3, 1) := by decide +kernel
theorem dX10_vault_82 : decode cX10_vault 82 = .ok (.invokevirtual 70, 3) := by decide +kernel
theorem dX10_vault_85 : decode cX10_vault 85 = .ok (.ireturn, 1) := by decide +kernel
theorem dX10_vault_86 : decode cX10_vault 86 = .ok (.aload_n 0, 1) := by decide +kernel
theorem dX10_vault_87 : decode cX10_vault 87 = .ok (.getfield 20, 3) := by decide +kernel
theorem dX10_vault_90 : decode cX10_vault 90 = .ok (.aload 5, 2) := by decide +kernel
theorem dX10_vault_92 : decode cX10_vault 92 = .ok (.iload_n 3, 1) := by decide +kernel
theorem dX10_vault_93 : decode cX10_vault 93 = .ok (.iload 4, 2) := by decide +kernel
theorem dX10_vault_95 : decode cX10_vault 95 = .ok (.invokevirtual 81, 3) := by decide +kernel
theorem dX10_vault_98 : decode cX10_vault 98 = .ok (.istore 6, 2) := by decide +kernel
theorem dX10_vault_100 : decode cX10_vault 100 = .ok (.iload 6, 2) := by decide +kernel
theorem dX10_vault_102 : decode cX10_vault 102 = .ok (.bipush (-9), 2) := by decide +kernel
theorem dX10_vault_104 : decode cX10_vault 104 = .ok (.if_icmp .eq 9, 3) := by decide +kernel
theorem dX10_vault_107 : decode cX10_vault 107 = .ok (.bipush (-100), 2) := by decide +kernel
theorem dX10_vault_109 : decode cX10_vault 109 = .ok (.iload 6, 2) := by decide +kernel
theorem dX10_vault_111 : decode cX10_vault 111 = .ok (.isub, 1) := by decide +kernel
theorem dX10_vault_112 : decode cX10_vault 112 = .ok (.ireturn, 1) := by decide +kernel
theorem dX10_vault_113 : decode cX10_vault 113 = .ok (.aload_n 0, 1) := by decide +kernel
theorem dX10_vault_114 : decode cX10_vault 114 = .ok (.aload_n 0, 1) := by decide +kernel
theorem dX10_vault_115 : decode cX10_vault 115 = .ok (.getfield 20, 3) := by decide +kernel
theorem dX10_vault_118 : decode cX10_vault 118 = .ok (.aload_n 0, 1) := by decide +kernel
theorem dX10_vault_119 : decode cX10_vault 119 = .ok (.getfield 55, 3) := by decide +kernel
theorem dX10_vault_122 : decode cX10_vault 122 = .ok (.invokevirtual 85, 3) := by decide +kernel
theorem dX10_vault_125 : decode cX10_vault 125 = .ok (.putfield 55, 3) := by decide +kernel
theorem dX10_vault_128 : decode cX10_vault 128 = .ok (.aload_n 0, 1) := by decide +kernel
theorem dX10_vault_129 : decode cX10_vault 129 = .ok (.getfield 27, 3) := by decide +kernel
theorem dX10_vault_132 : decode cX10_vault 132 = .ok (.iconst 0, 1) := by decide +kernel
theorem dX10_vault_133 : decode cX10_vault 133 = .ok (.putfield 89, 3) := by decide +kernel
theorem dX10_vault_136 : decode cX10_vault 136 = .ok (.aload_n 0, 1) := by decide +kernel
theorem dX10_vault_137 : decode cX10_vault 137 = .ok (.getfield 55, 3) := by decide +kernel
theorem dX10_vault_140 : decode cX10_vault 140 = .ok (.getfield 92, 3) := by decide +kernel
theorem dX10_vault_143 : decode cX10_vault 143 = .ok (.ireturn, 1) := by decide +kernel
theorem dX10_ofTaker_0 : decode cX10_ofTaker 0 = .ok (.aload_n 0, 1) := by decide +kernel
theorem dX10_ofTaker_1 : decode cX10_ofTaker 1 = .ok (.getfield 55, 3) := by decide +kernel
theorem dX10_ofTaker_4 : decode cX10_ofTaker 4 = .ok (.iload_n 1, 1) := by decide +kernel
theorem dX10_ofTaker_5 : decode cX10_ofTaker 5 = .ok (.invokevirtual 95, 3) := by decide +kernel
theorem dX10_ofTaker_8 : decode cX10_ofTaker 8 = .ok (.astore_n 3, 1) := by decide +kernel
theorem dX10_ofTaker_9 : decode cX10_ofTaker 9 = .ok (.aload_n 3, 1) := by decide +kernel
theorem dX10_ofTaker_10 : decode cX10_ofTaker 10 = .ok (.ifnonnull 5, 3) := by decide +kernel
theorem dX10_ofTaker_13 : decode cX10_ofTaker 13 = .ok (.iconst (-1), 1) := by decide +kernel
theorem dX10_ofTaker_14 : decode cX10_ofTaker 14 = .ok (.ireturn, 1) := by decide +kernel
theorem dX10_ofTaker_15 : decode cX10_ofTaker 15 = .ok (.iload_n 2, 1) := by decide +kernel
theorem dX10_ofTaker_16 : decode cX10_ofTaker 16 = .ok (.tableswitch 43 0 2 #[28, 33, 38], 28) := by decide +kernel
theorem dX10_ofTaker_44 : decode cX10_ofTaker 44 = .ok (.aload_n 3, 1) := by decide +kernel
theorem dX10_ofTaker_45 : decode cX10_ofTaker 45 = .ok (.invokevirtual 99, 3) := by decide +kernel
theorem dX10_ofTaker_48 : decode cX10_ofTaker 48 = .ok (.ireturn, 1) := by decide +kernel
theorem dX10_ofTaker_49 : decode cX10_ofTaker 49 = .ok (.aload_n 3, 1) := by decide +kernel
theorem dX10_ofTaker_50 : decode cX10_ofTaker 50 = .ok (.getfield 105, 3) := by decide +kernel
theorem dX10_ofTaker_53 : decode cX10_ofTaker 53 = .ok (.ireturn, 1) := by decide +kernel
theorem dX10_ofTaker_54 : decode cX10_ofTaker 54 = .ok (.aload_n 3, 1) := by decide +kernel
theorem dX10_ofTaker_55 : decode cX10_ofTaker 55 = .ok (.getfield 108, 3) := by decide +kernel
theorem dX10_ofTaker_58 : decode cX10_ofTaker 58 = .ok (.ireturn, 1) := by decide +kernel
theorem dX10_ofTaker_59 : decode cX10_ofTaker 59 = .ok (.bipush (-2), 2) := by decide +kernel
theorem dX10_ofTaker_61 : decode cX10_ofTaker 61 = .ok (.ireturn, 1) := by decide +kernel
theorem dX10_depth_0 : decode cX10_depth 0 = .ok (.aload_n 0, 1) := by decide +kernel
theorem dX10_depth_1 : decode cX10_depth 1 = .ok (.getfield 55, 3) := by decide +kernel
theorem dX10_depth_4 : decode cX10_depth 4 = .ok (.iload_n 1, 1) := by decide +kernel
theorem dX10_depth_5 : decode cX10_depth 5 = .ok (.invokevirtual 111, 3) := by decide +kernel
theorem dX10_depth_8 : decode cX10_depth 8 = .ok (.ifCond .eq 15, 3) := by decide +kernel
theorem dX10_depth_11 : decode cX10_depth 11 = .ok (.aload_n 0, 1) := by decide +kernel
theorem dX10_depth_12 : decode cX10_depth 12 = .ok (.getfield 55, 3) := by decide +kernel
theorem dX10_depth_15 : decode cX10_depth 15 = .ok (.getfield 114, 3) := by decide +kernel
theorem dX10_depth_18 : decode cX10_depth 18 = .ok (.iload_n 1, 1) := by decide +kernel
theorem dX10_depth_19 : decode cX10_depth 19 = .ok (.iaload, 1) := by decide +kernel
theorem dX10_depth_20 : decode cX10_depth 20 = .ok (.goto 4, 3) := by decide +kernel
theorem dX10_depth_23 : decode cX10_depth 23 = .ok (.iconst (-1), 1) := by decide +kernel
theorem dX10_depth_24 : decode cX10_depth 24 = .ok (.ireturn, 1) := by decide +kernel
theorem dX10_gloom_0 : decode cX10_gloom 0 = .ok (.aload_n 0, 1) := by decide +kernel
theorem dX10_gloom_1 : decode cX10_gloom 1 = .ok (.getfield 55, 3) := by decide +kernel
theorem dX10_gloom_4 : decode cX10_gloom 4 = .ok (.iload_n 1, 1) := by decide +kernel
theorem dX10_gloom_5 : decode cX10_gloom 5 = .ok (.invokevirtual 118, 3) := by decide +kernel
theorem dX10_gloom_8 : decode cX10_gloom 8 = .ok (.ifCond .eq 15, 3) := by decide +kernel
theorem dX10_gloom_11 : decode cX10_gloom 11 = .ok (.aload_n 0, 1) := by decide +kernel
theorem dX10_gloom_12 : decode cX10_gloom 12 = .ok (.getfield 55, 3) := by decide +kernel
theorem dX10_gloom_15 : decode cX10_gloom 15 = .ok (.getfield 121, 3) := by decide +kernel
theorem dX10_gloom_18 : decode cX10_gloom 18 = .ok (.iload_n 1, 1) := by decide +kernel
theorem dX10_gloom_19 : decode cX10_gloom 19 = .ok (.iaload, 1) := by decide +kernel
theorem dX10_gloom_20 : decode cX10_gloom 20 = .ok (.goto 4, 3) := by decide +kernel
theorem dX10_gloom_23 : decode cX10_gloom 23 = .ok (.iconst (-1), 1) := by decide +kernel
theorem dX10_gloom_24 : decode cX10_gloom 24 = .ok (.ireturn, 1) := by decide +kernel
theorem dX10_hush_0 : decode cX10_hush 0 = .ok (.aload_n 0, 1) := by decide +kernel
theorem dX10_hush_1 : decode cX10_hush 1 = .ok (.getfield 55, 3) := by decide +kernel
theorem dX10_hush_4 : decode cX10_hush 4 = .ok (.iload_n 1, 1) := by decide +kernel
theorem dX10_hush_5 : decode cX10_hush 5 = .ok (.invokevirtual 118, 3) := by decide +kernel
theorem dX10_hush_8 : decode cX10_hush 8 = .ok (.ifCond .ne 5, 3) := by decide +kernel
theorem dX10_hush_11 : decode cX10_hush 11 = .ok (.iconst (-1), 1) := by decide +kernel
theorem dX10_hush_12 : decode cX10_hush 12 = .ok (.ireturn, 1) := by decide +kernel
theorem dX10_hush_13 : decode cX10_hush 13 = .ok (.iload_n 2, 1) := by decide +kernel
theorem dX10_hush_14 : decode cX10_hush 14 = .ok (.ifCond .lt 9, 3) := by decide +kernel
theorem dX10_hush_17 : decode cX10_hush 17 = .ok (.iload_n 2, 1) := by decide +kernel
theorem dX10_hush_18 : decode cX10_hush 18 = .ok (.bipush 9, 2) := by decide +kernel
theorem dX10_hush_20 : decode cX10_hush 20 = .ok (.if_icmp .le 6, 3) := by decide +kernel
theorem dX10_hush_23 : decode cX10_hush 23 = .ok (.bipush (-2), 2) := by decide +kernel
theorem dX10_hush_25 : decode cX10_hush 25 = .ok (.ireturn, 1) := by decide +kernel
theorem dX10_hush_26 : decode cX10_hush 26 = .ok (.aload_n 0, 1) := by decide +kernel
theorem dX10_hush_27 : decode cX10_hush 27 = .ok (.getfield 55, 3) := by decide +kernel
theorem dX10_hush_30 : decode cX10_hush 30 = .ok (.getfield 121, 3) := by decide +kernel
theorem dX10_hush_33 : decode cX10_hush 33 = .ok (.iload_n 1, 1) := by decide +kernel
theorem dX10_hush_34 : decode cX10_hush 34 = .ok (.iaload, 1) := by decide +kernel
theorem dX10_hush_35 : decode cX10_hush 35 = .ok (.istore_n 3, 1) := by decide +kernel
theorem dX10_hush_36 : decode cX10_hush 36 = .ok (.aload_n 0, 1) := by decide +kernel
theorem dX10_hush_37 : decode cX10_hush 37 = .ok (.getfield 55, 3) := by decide +kernel
theorem dX10_hush_40 : decode cX10_hush 40 = .ok (.getfield 121, 3) := by decide +kernel
theorem dX10_hush_43 : decode cX10_hush 43 = .ok (.iload_n 1, 1) := by decide +kernel
theorem dX10_hush_44 : decode cX10_hush 44 = .ok (.iload_n 2, 1) := by decide +kernel
theorem dX10_hush_45 : decode cX10_hush 45 = .ok (.iastore, 1) := by decide +kernel
theorem dX10_hush_46 : decode cX10_hush 46 = .ok (.iload_n 3, 1) := by decide +kernel
theorem dX10_hush_47 : decode cX10_hush 47 = .ok (.ireturn, 1) := by decide +kernel
theorem dX10_think_0 : decode cX10_think 0 = .ok (.aload_n 0, 1) := by decide +kernel
theorem dX10_think_1 : decode cX10_think 1 = .ok (.getfield 55, 3) := by decide +kernel
theorem dX10_think_4 : decode cX10_think 4 = .ok (.iload_n 1, 1) := by decide +kernel
theorem dX10_think_5 : decode cX10_think 5 = .ok (.invokevirtual 95, 3) := by decide +kernel
theorem dX10_think_8 : decode cX10_think 8 = .ok (.astore_n 3, 1) := by decide +kernel
theorem dX10_think_9 : decode cX10_think 9 = .ok (.aload_n 3, 1) := by decide +kernel
theorem dX10_think_10 : decode cX10_think 10 = .ok (.ifnonnull 5, 3) := by decide +kernel
theorem dX10_think_13 : decode cX10_think 13 = .ok (.iconst (-1), 1) := by decide +kernel
theorem dX10_think_14 : decode cX10_think 14 = .ok (.ireturn, 1) := by decide +kernel
theorem dX10_think_15 : decode cX10_think 15 = .ok (.iload_n 2, 1) := by decide +kernel
theorem dX10_think_16 : decode cX10_think 16 = .ok (.ifCond .lt 9, 3) := by decide +kernel
theorem dX10_think_19 : decode cX10_think 19 = .ok (.iload_n 2, 1) := by decide +kernel
theorem dX10_think_20 : decode cX10_think 20 = .ok (.bipush 9, 2) := by decide +kernel
theorem dX10_think_22 : decode cX10_think 22 = .ok (.if_icmp .le 6, 3) := by decide +kernel
theorem dX10_think_25 : decode cX10_think 25 = .ok (.bipush (-2), 2) := by decide +kernel
theorem dX10_think_27 : decode cX10_think 27 = .ok (.ireturn, 1) := by decide +kernel
theorem dX10_think_28 : decode cX10_think 28 = .ok (.aload_n 3, 1) := by decide +kernel
theorem dX10_think_29 : decode cX10_think 29 = .ok (.getfield 108, 3) := by decide +kernel
theorem dX10_think_32 : decode cX10_think 32 = .ok (.istore 4, 2) := by decide +kernel
theorem dX10_think_34 : decode cX10_think 34 = .ok (.aload_n 3, 1) := by decide +kernel
theorem dX10_think_35 : decode cX10_think 35 = .ok (.iload_n 2, 1) := by decide +kernel
theorem dX10_think_36 : decode cX10_think 36 = .ok (.putfield 108, 3) := by decide +kernel
theorem dX10_think_39 : decode cX10_think 39 = .ok (.iload 4, 2) := by decide +kernel
theorem dX10_think_41 : decode cX10_think 41 = .ok (.ireturn, 1) := by decide +kernel
theorem dX10_brace_0 : decode cX10_brace 0 = .ok (.aload_n 0, 1) := by decide +kernel
theorem dX10_brace_1 : decode cX10_brace 1 = .ok (.getfield 55, 3) := by decide +kernel
theorem dX10_brace_4 : decode cX10_brace 4 = .ok (.iload_n 1, 1) := by decide +kernel
theorem dX10_brace_5 : decode cX10_brace 5 = .ok (.invokevirtual 95, 3) := by decide +kernel
theorem dX10_brace_8 : decode cX10_brace 8 = .ok (.astore_n 3, 1) := by decide +kernel
theorem dX10_brace_9 : decode cX10_brace 9 = .ok (.aload_n 3, 1) := by decide +kernel
theorem dX10_brace_10 : decode cX10_brace 10 = .ok (.ifnonnull 5, 3) := by decide +kernel
theorem dX10_brace_13 : decode cX10_brace 13 = .ok (.iconst (-1), 1) := by decide +kernel
theorem dX10_brace_14 : decode cX10_brace 14 = .ok (.ireturn, 1) := by decide +kernel
theorem dX10_brace_15 : decode cX10_brace 15 = .ok (.iload_n 2, 1) := by decide +kernel
theorem dX10_brace_16 : decode cX10_brace 16 = .ok (.ifCond .lt 9, 3) := by decide +kernel
theorem dX10_brace_19 : decode cX10_brace 19 = .ok (.iload_n 2, 1) := by decide +kernel
theorem dX10_brace_20 : decode cX10_brace 20 = .ok (.bipush 99, 2) := by decide +kernel
theorem dX10_brace_22 : decode cX10_brace 22 = .ok (.if_icmp .le 6, 3) := by decide +kernel
theorem dX10_brace_25 : decode cX10_brace 25 = .ok (.bipush (-2), 2) := by decide +kernel
theorem dX10_brace_27 : decode cX10_brace 27 = .ok (.ireturn, 1) := by decide +kernel
theorem dX10_brace_28 : decode cX10_brace 28 = .ok (.aload_n 3, 1) := by decide +kernel
theorem dX10_brace_29 : decode cX10_brace 29 = .ok (.getfield 105, 3) := by decide +kernel
theorem dX10_brace_32 : decode cX10_brace 32 = .ok (.istore 4, 2) := by decide +kernel
theorem dX10_brace_34 : decode cX10_brace 34 = .ok (.aload_n 3, 1) := by decide +kernel
theorem dX10_brace_35 : decode cX10_brace 35 = .ok (.iload_n 2, 1) := by decide +kernel
theorem dX10_brace_36 : decode cX10_brace 36 = .ok (.putfield 105, 3) := by decide +kernel
theorem dX10_brace_39 : decode cX10_brace 39 = .ok (.iload 4, 2) := by decide +kernel
theorem dX10_brace_41 : decode cX10_brace 41 = .ok (.ireturn, 1) := by decide +kernel
theorem dX10_drain_0 : decode cX10_drain 0 = .ok (.aload_n 0, 1) := by decide +kernel
theorem dX10_drain_1 : decode cX10_drain 1 = .ok (.getfield 55, 3) := by decide +kernel
theorem dX10_drain_4 : decode cX10_drain 4 = .ok (.iload_n 1, 1) := by decide +kernel
theorem dX10_drain_5 : decode cX10_drain 5 = .ok (.invokevirtual 95, 3) := by decide +kernel
theorem dX10_drain_8 : decode cX10_drain 8 = .ok (.astore_n 3, 1) := by decide +kernel
theorem dX10_drain_9 : decode cX10_drain 9 = .ok (.aload_n 3, 1) := by decide +kernel
theorem dX10_drain_10 : decode cX10_drain 10 = .ok (.ifnonnull 5, 3) := by decide +kernel
theorem dX10_drain_13 : decode cX10_drain 13 = .ok (.iconst (-1), 1) := by decide +kernel
theorem dX10_drain_14 : decode cX10_drain 14 = .ok (.ireturn, 1) := by decide +kernel
theorem dX10_drain_15 : decode cX10_drain 15 = .ok (.iload_n 2, 1) := by decide +kernel
theorem dX10_drain_16 : decode cX10_drain 16 = .ok (.ifCond .lt 9, 3) := by decide +kernel
theorem dX10_drain_19 : decode cX10_drain 19 = .ok (.iload_n 2, 1) := by decide +kernel
theorem dX10_drain_20 : decode cX10_drain 20 = .ok (.bipush 100, 2) := by decide +kernel
theorem dX10_drain_22 : decode cX10_drain 22 = .ok (.if_icmp .lt 6, 3) := by decide +kernel
theorem dX10_drain_25 : decode cX10_drain 25 = .ok (.bipush (-2), 2) := by decide +kernel
theorem dX10_drain_27 : decode cX10_drain 27 = .ok (.ireturn, 1) := by decide +kernel
theorem dX10_drain_28 : decode cX10_drain 28 = .ok (.aload_n 3, 1) := by decide +kernel
theorem dX10_drain_29 : decode cX10_drain 29 = .ok (.aload_n 0, 1) := by decide +kernel
theorem dX10_drain_30 : decode cX10_drain 30 = .ok (.getfield 55, 3) := by decide +kernel
theorem dX10_drain_33 : decode cX10_drain 33 = .ok (.iload_n 2, 1) := by decide +kernel
theorem dX10_drain_34 : decode cX10_drain 34 = .ok (.invokevirtual 124, 3) := by decide +kernel
theorem dX10_drain_37 : decode cX10_drain 37 = .ok (.invokevirtual 127, 3) := by decide +kernel
theorem dX10_drain_40 : decode cX10_drain 40 = .ok (.ireturn, 1) := by decide +kernel
theorem dX10_holds_0 : decode cX10_holds 0 = .ok (.aload_n 0, 1) := by decide +kernel
theorem dX10_holds_1 : decode cX10_holds 1 = .ok (.getfield 55, 3) := by decide +kernel
theorem dX10_holds_4 : decode cX10_holds 4 = .ok (.iload_n 1, 1) := by decide +kernel
theorem dX10_holds_5 : decode cX10_holds 5 = .ok (.invokevirtual 95, 3) := by decide +kernel
theorem dX10_holds_8 : decode cX10_holds 8 = .ok (.astore_n 3, 1) := by decide +kernel
theorem dX10_holds_9 : decode cX10_holds 9 = .ok (.aload_n 3, 1) := by decide +kernel
theorem dX10_holds_10 : decode cX10_holds 10 = .ok (.ifnonnull 5, 3) := by decide +kernel
theorem dX10_holds_13 : decode cX10_holds 13 = .ok (.iconst (-1), 1) := by decide +kernel
theorem dX10_holds_14 : decode cX10_holds 14 = .ok (.ireturn, 1) := by decide +kernel
theorem dX10_holds_15 : decode cX10_holds 15 = .ok (.iload_n 2, 1) := by decide +kernel
theorem dX10_holds_16 : decode cX10_holds 16 = .ok (.invokestatic 130, 3) := by decide +kernel
theorem dX10_holds_19 : decode cX10_holds 19 = .ok (.ifCond .eq 15, 3) := by decide +kernel
theorem dX10_holds_22 : decode cX10_holds 22 = .ok (.aload_n 0, 1) := by decide +kernel
theorem dX10_holds_23 : decode cX10_holds 23 = .ok (.getfield 55, 3) := by decide +kernel
theorem dX10_holds_26 : decode cX10_holds 26 = .ok (.aload_n 3, 1) := by decide +kernel
theorem dX10_holds_27 : decode cX10_holds 27 = .ok (.iload_n 2, 1) := by decide +kernel
theorem dX10_holds_28 : decode cX10_holds 28 = .ok (.invokevirtual 133, 3) := by decide +kernel
theorem dX10_holds_31 : decode cX10_holds 31 = .ok (.goto 5, 3) := by decide +kernel
theorem dX10_holds_34 : decode cX10_holds 34 = .ok (.bipush (-2), 2) := by decide +kernel
theorem dX10_holds_36 : decode cX10_holds 36 = .ok (.ireturn, 1) := by decide +kernel
theorem dX10_best_0 : decode cX10_best 0 = .ok (.aload_n 0, 1) := by decide +kernel
theorem dX10_best_1 : decode cX10_best 1 = .ok (.getfield 55, 3) := by decide +kernel
theorem dX10_best_4 : decode cX10_best 4 = .ok (.iload_n 1, 1) := by decide +kernel
theorem dX10_best_5 : decode cX10_best 5 = .ok (.invokevirtual 95, 3) := by decide +kernel
theorem dX10_best_8 : decode cX10_best 8 = .ok (.astore_n 3, 1) := by decide +kernel
theorem dX10_best_9 : decode cX10_best 9 = .ok (.aload_n 3, 1) := by decide +kernel
theorem dX10_best_10 : decode cX10_best 10 = .ok (.ifnonnull 5, 3) := by decide +kernel
theorem dX10_best_13 : decode cX10_best 13 = .ok (.iconst (-1), 1) := by decide +kernel
theorem dX10_best_14 : decode cX10_best 14 = .ok (.ireturn, 1) := by decide +kernel
theorem dX10_best_15 : decode cX10_best 15 = .ok (.iload_n 2, 1) := by decide +kernel
theorem dX10_best_16 : decode cX10_best 16 = .ok (.ifCond .eq 11, 3) := by decide +kernel
theorem dX10_best_19 : decode cX10_best 19 = .ok (.iload_n 2, 1) := by decide +kernel
theorem dX10_best_20 : decode cX10_best 20 = .ok (.iconst 1, 1) := by decide +kernel
theorem dX10_best_21 : decode cX10_best 21 = .ok (.if_icmp .eq 6, 3) := by decide +kernel
theorem dX10_best_24 : decode cX10_best 24 = .ok (.bipush (-2), 2) := by decide +kernel
theorem dX10_best_26 : decode cX10_best 26 = .ok (.ireturn, 1) := by decide +kernel
theorem dX10_best_27 : decode cX10_best 27 = .ok (.aload_n 0, 1) := by decide +kernel
theorem dX10_best_28 : decode cX10_best 28 = .ok (.getfield 55, 3) := by decide +kernel
theorem dX10_best_31 : decode cX10_best 31 = .ok (.aload_n 3, 1) := by decide +kernel
theorem dX10_best_32 : decode cX10_best 32 = .ok (.invokevirtual 137, 3) := by decide +kernel
theorem dX10_best_35 : decode cX10_best 35 = .ok (.istore 4, 2) := by decide +kernel
theorem dX10_best_37 : decode cX10_best 37 = .ok (.iload_n 2, 1) := by decide +kernel
theorem dX10_best_38 : decode cX10_best 38 = .ok (.ifCond .ne 8, 3) := by decide +kernel
theorem dX10_best_41 : decode cX10_best 41 = .ok (.iload 4, 2) := by decide +kernel
theorem dX10_best_43 : decode cX10_best 43 = .ok (.goto 13, 3) := by decide +kernel
theorem dX10_best_46 : decode cX10_best 46 = .ok (.aload_n 0, 1) := by decide +kernel
theorem dX10_best_47 : decode cX10_best 47 = .ok (.getfield 55, 3) := by decide +kernel
theorem dX10_best_50 : decode cX10_best 50 = .ok (.aload_n 3, 1) := by decide +kernel
theorem dX10_best_51 : decode cX10_best 51 = .ok (.iload 4, 2) := by decide +kernel
theorem dX10_best_53 : decode cX10_best 53 = .ok (.invokevirtual 133, 3) := by decide +kernel
theorem dX10_best_56 : decode cX10_best 56 = .ok (.ireturn, 1) := by decide +kernel
theorem dX10_together_0 : decode cX10_together 0 = .ok (.aload_n 0, 1) := by decide +kernel
theorem dX10_together_1 : decode cX10_together 1 = .ok (.getfield 55, 3) := by decide +kernel
theorem dX10_together_4 : decode cX10_together 4 = .ok (.iload_n 1, 1) := by decide +kernel
theorem dX10_together_5 : decode cX10_together 5 = .ok (.invokevirtual 95, 3) := by decide +kernel
theorem dX10_together_8 : decode cX10_together 8 = .ok (.astore 4, 2) := by decide +kernel
theorem dX10_together_10 : decode cX10_together 10 = .ok (.aload_n 0, 1) := by decide +kernel
theorem dX10_together_11 : decode cX10_together 11 = .ok (.getfield 55, 3) := by decide +kernel
theorem dX10_together_14 : decode cX10_together 14 = .ok (.iload_n 2, 1) := by decide +kernel
theorem dX10_together_15 : decode cX10_together 15 = .ok (.invokevirtual 95, 3) := by decide +kernel
theorem dX10_together_18 : decode cX10_together 18 = .ok (.astore 5, 2) := by decide +kernel
theorem dX10_together_20 : decode cX10_together 20 = .ok (.aload 4, 2) := by decide +kernel
theorem dX10_together_22 : decode cX10_together 22 = .ok (.ifnull 13, 3) := by decide +kernel
theorem dX10_together_25 : decode cX10_together 25 = .ok (.aload 5, 2) := by decide +kernel
theorem dX10_together_27 : decode cX10_together 27 = .ok (.ifnull 8, 3) := by decide +kernel
theorem dX10_together_30 : decode cX10_together 30 = .ok (.iload_n 1, 1) := by decide +kernel
theorem dX10_together_31 : decode cX10_together 31 = .ok (.iload_n 2, 1) := by decide +kernel
theorem dX10_together_32 : decode cX10_together 32 = .ok (.if_icmp .ne 5, 3) := by decide +kernel
theorem dX10_together_35 : decode cX10_together 35 = .ok (.iconst (-1), 1) := by decide +kernel
theorem dX10_together_36 : decode cX10_together 36 = .ok (.ireturn, 1) := by decide +kernel
theorem dX10_together_37 : decode cX10_together 37 = .ok (.iload_n 3, 1) := by decide +kernel
theorem dX10_together_38 : decode cX10_together 38 = .ok (.invokestatic 130, 3) := by decide +kernel
theorem dX10_together_41 : decode cX10_together 41 = .ok (.ifCond .eq 18, 3) := by decide +kernel
theorem dX10_together_44 : decode cX10_together 44 = .ok (.aload_n 0, 1) := by decide +kernel
theorem dX10_together_45 : decode cX10_together 45 = .ok (.getfield 55, 3) := by decide +kernel
theorem dX10_together_48 : decode cX10_together 48 = .ok (.aload 4, 2) := by decide +kernel
theorem dX10_together_50 : decode cX10_together 50 = .ok (.aload 5, 2) := by decide +kernel
theorem dX10_together_52 : decode cX10_together 52 = .ok (.iload_n 3, 1) := by decide +kernel
theorem dX10_together_53 : decode cX10_together 53 = .ok (.invokevirtual 141, 3) := by decide +kernel
theorem dX10_together_56 : decode cX10_together 56 = .ok (.goto 5, 3) := by decide +kernel
theorem dX10_together_59 : decode cX10_together 59 = .ok (.bipush (-2), 2) := by decide +kernel
theorem dX10_together_61 : decode cX10_together 61 = .ok (.ireturn, 1) := by decide +kernel
theorem dX10_friend_0 : decode cX10_friend 0 = .ok (.aload_n 0, 1) := by decide +kernel
theorem dX10_friend_1 : decode cX10_friend 1 = .ok (.getfield 55, 3) := by decide +kernel
theorem dX10_friend_4 : decode cX10_friend 4 = .ok (.iload_n 1, 1) := by decide +kernel
theorem dX10_friend_5 : decode cX10_friend 5 = .ok (.invokevirtual 95, 3) := by decide +kernel
theorem dX10_friend_8 : decode cX10_friend 8 = .ok (.astore_n 3, 1) := by decide +kernel
theorem dX10_friend_9 : decode cX10_friend 9 = .ok (.aload_n 3, 1) := by decide +kernel
theorem dX10_friend_10 : decode cX10_friend 10 = .ok (.ifnonnull 5, 3) := by decide +kernel
theorem dX10_friend_13 : decode cX10_friend 13 = .ok (.iconst (-1), 1) := by decide +kernel
theorem dX10_friend_14 : decode cX10_friend 14 = .ok (.ireturn, 1) := by decide +kernel
theorem dX10_friend_15 : decode cX10_friend 15 = .ok (.iload_n 2, 1) := by decide +kernel
theorem dX10_friend_16 : decode cX10_friend 16 = .ok (.invokestatic 130, 3) := by decide +kernel
theorem dX10_friend_19 : decode cX10_friend 19 = .ok (.ifCond .eq 15, 3) := by decide +kernel
theorem dX10_friend_22 : decode cX10_friend 22 = .ok (.aload_n 0, 1) := by decide +kernel
theorem dX10_friend_23 : decode cX10_friend 23 = .ok (.getfield 55, 3) := by decide +kernel
theorem dX10_friend_26 : decode cX10_friend 26 = .ok (.aload_n 3, 1) := by decide +kernel
theorem dX10_friend_27 : decode cX10_friend 27 = .ok (.iload_n 2, 1) := by decide +kernel
theorem dX10_friend_28 : decode cX10_friend 28 = .ok (.invokevirtual 145, 3) := by decide +kernel
theorem dX10_friend_31 : decode cX10_friend 31 = .ok (.goto 5, 3) := by decide +kernel
theorem dX10_friend_34 : decode cX10_friend 34 = .ok (.bipush (-2), 2) := by decide +kernel
theorem dX10_friend_36 : decode cX10_friend 36 = .ok (.ireturn, 1) := by decide +kernel
theorem dX10_night_0 : decode cX10_night 0 = .ok (.aload_n 0, 1) := by decide +kernel
theorem dX10_night_1 : decode cX10_night 1 = .ok (.iconst 0, 1) := by decide +kernel
theorem dX10_night_2 : decode cX10_night 2 = .ok (.putfield 59, 3) := by decide +kernel
theorem dX10_night_5 : decode cX10_night 5 = .ok (.iload_n 1, 1) := by decide +kernel
theorem dX10_night_6 : decode cX10_night 6 = .ok (.invokestatic 63, 3) := by decide +kernel
theorem dX10_night_9 : decode cX10_night 9 = .ok (.ifCond .ne 5, 3) := by decide +kernel
theorem dX10_night_12 : decode cX10_night 12 = .ok (.iconst (-1), 1) := by decide +kernel
theorem dX10_night_13 : decode cX10_night 13 = .ok (.ireturn, 1) := by decide +kernel
theorem dX10_night_14 : decode cX10_night 14 = .ok (.iload_n 2, 1) := by decide +kernel
theorem dX10_night_15 : decode cX10_night 15 = .ok (.invokestatic 67, 3) := by decide +kernel
theorem dX10_night_18 : decode cX10_night 18 = .ok (.ifCond .eq 23, 3) := by decide +kernel
theorem dX10_night_21 : decode cX10_night 21 = .ok (.iload 4, 2) := by decide +kernel
theorem dX10_night_23 : decode cX10_night 23 = .ok (.ifCond .lt 18, 3) := by decide +kernel
theorem dX10_night_26 : decode cX10_night 26 = .ok (.iload 4, 2) := by decide +kernel
theorem dX10_night_28 : decode cX10_night 28 = .ok (.bipush 20, 2) := by decide +kernel
theorem dX10_night_30 : decode cX10_night 30 = .ok (.if_icmp .gt 11, 3) := by decide +kernel
theorem dX10_night_33 : decode cX10_night 33 = .ok (.iload 5, 2) := by decide +kernel
theorem dX10_night_35 : decode cX10_night 35 = .ok (.invokestatic 148, 3) := by decide +kernel
theorem dX10_night_38 : decode cX10_night 38 = .ok (.ifCond .ne 6, 3) := by decide +kernel
theorem dX10_night_41 : decode cX10_night 41 = .ok (.bipush (-2), 2) := by decide +kernel
theorem dX10_night_43 : decode cX10_night 43 = .ok (.ireturn, 1) := by decide +kernel
theorem dX10_night_44 : decode cX10_night 44 = .ok (.aload_n 0, 1) := by decide +kernel
theorem dX10_night_45 : decode cX10_night 45 = .ok (.getfield 13, 3) := by decide +kernel
theorem dX10_night_48 : decode cX10_night 48 = .ok (.iload_n 1, 1) := by decide +kernel
theorem dX10_night_49 : decode cX10_night 49 = .ok (.aaload, 1) := by decide +kernel
theorem dX10_night_50 : decode cX10_night 50 = .ok (.astore 6, 2) := by decide +kernel
theorem dX10_night_52 : decode cX10_night 52 = .ok (.aload 6, 2) := by decide +kernel
theorem dX10_night_54 : decode cX10_night 54 = .ok (.ifnonnull 9, 3) := by decide +kernel
theorem dX10_night_57 : decode cX10_night 57 = .ok (.aload_n 0, 1) := by decide +kernel
theorem dX10_night_58 : decode cX10_night 58 = .ok (.iconst 1, 1) := by decide +kernel
theorem dX10_night_59 : decode cX10_night 59 = .ok (.invokevirtual 70, 3) := by decide +kernel
theorem dX10_night_62 : decode cX10_night 62 = .ok (.ireturn, 1) := by decide +kernel
theorem dX10_night_63 : decode cX10_night 63 = .ok (.aload 6, 2) := by decide +kernel
theorem dX10_night_65 : decode cX10_night 65 = .ok (.getfield 74, 3) := by decide +kernel
theorem dX10_night_68 : decode cX10_night 68 = .ok (.iload_n 2, 1) := by decide +kernel
theorem dX10_night_69 : decode cX10_night 69 = .ok (.if_icmp .eq 9, 3) := by decide +kernel
theorem dX10_night_72 : decode cX10_night 72 = .ok (.aload_n 0, 1) := by decide +kernel
theorem dX10_night_73 : decode cX10_night 73 = .ok (.iconst 2, 1) := by decide +kernel
theorem dX10_night_74 : decode cX10_night 74 = .ok (.invokevirtual 70, 3) := by decide +kernel
theorem dX10_night_77 : decode cX10_night 77 = .ok (.ireturn, 1) := by decide +kernel
theorem dX10_night_78 : decode cX10_night 78 = .ok (.aload 6, 2) := by decide +kernel
theorem dX10_night_80 : decode cX10_night 80 = .ok (.iload_n 3, 1) := by decide +kernel
theorem dX10_night_81 : decode cX10_night 81 = .ok (.iconst 2, 1) := by decide +kernel
theorem dX10_night_82 : decode cX10_night 82 = .ok (.iload 4, 2) := by decide +kernel
theorem dX10_night_84 : decode cX10_night 84 = .ok (.imul, 1) := by decide +kernel
theorem dX10_night_85 : decode cX10_night 85 = .ok (.invokevirtual 77, 3) := by decide +kernel
theorem dX10_night_88 : decode cX10_night 88 = .ok (.ifCond .ne 9, 3) := by decide +kernel
theorem dX10_night_91 : decode cX10_night 91 = .ok (.aload_n 0, 1) := by decide +kernel
theorem dX10_night_92 : decode cX10_night 92 = .ok (.iconst 3, 1) := by decide +kernel
theorem dX10_night_93 : decode cX10_night 93 = .ok (.invokevirtual 70, 3) := by decide +kernel
theorem dX10_night_96 : decode cX10_night 96 = .ok (.ireturn, 1) := by decide +kernel
theorem dX10_night_97 : decode cX10_night 97 = .ok (.aload_n 0, 1) := by decide +kernel
theorem dX10_night_98 : decode cX10_night 98 = .ok (.getfield 55, 3) := by decide +kernel
theorem dX10_night_101 : decode cX10_night 101 = .ok (.invokevirtual 151, 3) := by decide +kernel
theorem dX10_night_104 : decode cX10_night 104 = .ok (.ifCond .ne 6, 3) := by decide +kernel
theorem dX10_night_107 : decode cX10_night 107 = .ok (.bipush (-3), 2) := by decide +kernel
theorem dX10_night_109 : decode cX10_night 109 = .ok (.ireturn, 1) := by decide +kernel
theorem dX10_night_110 : decode cX10_night 110 = .ok (.aload_n 0, 1) := by decide +kernel
theorem dX10_night_111 : decode cX10_night 111 = .ok (.getfield 34, 3) := by decide +kernel
theorem dX10_night_114 : decode cX10_night 114 = .ok (.aload_n 0, 1) := by decide +kernel
theorem dX10_night_115 : decode cX10_night 115 = .ok (.getfield 55, 3) := by decide +kernel
theorem dX10_night_118 : decode cX10_night 118 = .ok (.aload 6, 2) := by decide +kernel
theorem dX10_night_120 : decode cX10_night 120 = .ok (.iload_n 3, 1) := by decide +kernel
theorem dX10_night_121 : decode cX10_night 121 = .ok (.iload 4, 2) := by decide +kernel
theorem dX10_night_123 : decode cX10_night 123 = .ok (.invokevirtual 155, 3) := by decide +kernel
theorem dX10_night_126 : decode cX10_night 126 = .ok (.istore 7, 2) := by decide +kernel
theorem dX10_night_128 : decode cX10_night 128 = .ok (.iload 7, 2) := by decide +kernel
theorem dX10_night_130 : decode cX10_night 130 = .ok (.ifCond .ne 19, 3) := by decide +kernel
theorem dX10_night_133 : decode cX10_night 133 = .ok (.aload_n 0, 1) := by decide +kernel
theorem dX10_night_134 : decode cX10_night 134 = .ok (.getfield 34, 3) := by decide +kernel
theorem dX10_night_137 : decode cX10_night 137 = .ok (.aload_n 0, 1) := by decide +kernel
theorem dX10_night_138 : decode cX10_night 138 = .ok (.getfield 55, 3) := by decide +kernel
theorem dX10_night_141 : decode cX10_night 141 = .ok (.iload 5, 2) := by decide +kernel
theorem dX10_night_143 : decode cX10_night 143 = .ok (.invokevirtual 159, 3) := by decide +kernel
theorem dX10_night_146 : decode cX10_night 146 = .ok (.goto 5, 3) := by decide +kernel
theorem dX10_night_149 : decode cX10_night 149 = .ok (.iload 7, 2) := by decide +kernel
theorem dX10_night_151 : decode cX10_night 151 = .ok (.ireturn, 1) := by decide +kernel
theorem dX10_gets_0 : decode cX10_gets 0 = .ok (.aload_n 0, 1) := by decide +kernel
theorem dX10_gets_1 : decode cX10_gets 1 = .ok (.getfield 55, 3) := by decide +kernel
theorem dX10_gets_4 : decode cX10_gets 4 = .ok (.iload_n 1, 1) := by decide +kernel
theorem dX10_gets_5 : decode cX10_gets 5 = .ok (.invokevirtual 95, 3) := by decide +kernel
theorem dX10_gets_8 : decode cX10_gets 8 = .ok (.astore_n 3, 1) := by decide +kernel
theorem dX10_gets_9 : decode cX10_gets 9 = .ok (.aload_n 3, 1) := by decide +kernel
theorem dX10_gets_10 : decode cX10_gets 10 = .ok (.ifnonnull 5, 3) := by decide +kernel
theorem dX10_gets_13 : decode cX10_gets 13 = .ok (.iconst (-1), 1) := by decide +kernel
theorem dX10_gets_14 : decode cX10_gets 14 = .ok (.ireturn, 1) := by decide +kernel
theorem dX10_gets_15 : decode cX10_gets 15 = .ok (.iload_n 2, 1) := by decide +kernel
theorem dX10_gets_16 : decode cX10_gets 16 = .ok (.invokestatic 130, 3) := by decide +kernel
theorem dX10_gets_19 : decode cX10_gets 19 = .ok (.ifCond .eq 15, 3) := by decide +kernel
theorem dX10_gets_22 : decode cX10_gets 22 = .ok (.aload_n 0, 1) := by decide +kernel
theorem dX10_gets_23 : decode cX10_gets 23 = .ok (.getfield 55, 3) := by decide +kernel
theorem dX10_gets_26 : decode cX10_gets 26 = .ok (.aload_n 3, 1) := by decide +kernel
theorem dX10_gets_27 : decode cX10_gets 27 = .ok (.iload_n 2, 1) := by decide +kernel
theorem dX10_gets_28 : decode cX10_gets 28 = .ok (.invokevirtual 163, 3) := by decide +kernel
theorem dX10_gets_31 : decode cX10_gets 31 = .ok (.goto 5, 3) := by decide +kernel
theorem dX10_gets_34 : decode cX10_gets 34 = .ok (.bipush (-2), 2) := by decide +kernel
theorem dX10_gets_36 : decode cX10_gets 36 = .ok (.ireturn, 1) := by decide +kernel
theorem dX10_send_0 : decode cX10_send 0 = .ok (.iload_n 1, 1) := by decide +kernel
theorem dX10_send_1 : decode cX10_send 1 = .ok (.invokestatic 130, 3) := by decide +kernel
theorem dX10_send_4 : decode cX10_send 4 = .ok (.ifCond .eq 13, 3) := by decide +kernel
theorem dX10_send_7 : decode cX10_send 7 = .ok (.iload_n 2, 1) := by decide +kernel
theorem dX10_send_8 : decode cX10_send 8 = .ok (.iconst (-1), 1) := by decide +kernel
theorem dX10_send_9 : decode cX10_send 9 = .ok (.if_icmp .lt 8, 3) := by decide +kernel
theorem dX10_send_12 : decode cX10_send 12 = .ok (.iload_n 2, 1) := by decide +kernel
theorem dX10_send_13 : decode cX10_send 13 = .ok (.iconst 5, 1) := by decide +kernel
theorem dX10_send_14 : decode cX10_send 14 = .ok (.if_icmp .lt 6, 3) := by decide +kernel
theorem dX10_send_17 : decode cX10_send 17 = .ok (.bipush (-2), 2) := by decide +kernel
theorem dX10_send_19 : decode cX10_send 19 = .ok (.ireturn, 1) := by decide +kernel
theorem dX10_send_20 : decode cX10_send 20 = .ok (.aload_n 0, 1) := by decide +kernel
theorem dX10_send_21 : decode cX10_send 21 = .ok (.getfield 55, 3) := by decide +kernel
theorem dX10_send_24 : decode cX10_send 24 = .ok (.invokevirtual 151, 3) := by decide +kernel
theorem dX10_send_27 : decode cX10_send 27 = .ok (.ifCond .ne 6, 3) := by decide +kernel
theorem dX10_send_30 : decode cX10_send 30 = .ok (.bipush (-3), 2) := by decide +kernel
theorem dX10_send_32 : decode cX10_send 32 = .ok (.ireturn, 1) := by decide +kernel
theorem dX10_send_33 : decode cX10_send 33 = .ok (.aload_n 0, 1) := by decide +kernel
theorem dX10_send_34 : decode cX10_send 34 = .ok (.getfield 41, 3) := by decide +kernel
theorem dX10_send_37 : decode cX10_send 37 = .ok (.aload_n 0, 1) := by decide +kernel
theorem dX10_send_38 : decode cX10_send 38 = .ok (.getfield 55, 3) := by decide +kernel
theorem dX10_send_41 : decode cX10_send 41 = .ok (.iload_n 1, 1) := by decide +kernel
theorem dX10_send_42 : decode cX10_send 42 = .ok (.invokevirtual 166, 3) := by decide +kernel
theorem dX10_send_45 : decode cX10_send 45 = .ok (.iload_n 2, 1) := by decide +kernel
theorem dX10_send_46 : decode cX10_send 46 = .ok (.iconst (-1), 1) := by decide +kernel
theorem dX10_send_47 : decode cX10_send 47 = .ok (.if_icmp .ne 13, 3) := by decide +kernel
theorem dX10_send_50 : decode cX10_send 50 = .ok (.aload_n 0, 1) := by decide +kernel
theorem dX10_send_51 : decode cX10_send 51 = .ok (.getfield 41, 3) := by decide +kernel
theorem dX10_send_54 : decode cX10_send 54 = .ok (.invokevirtual 170, 3) := by decide +kernel
theorem dX10_send_57 : decode cX10_send 57 = .ok (.goto 15, 3) := by decide +kernel
theorem dX10_send_60 : decode cX10_send 60 = .ok (.aload_n 0, 1) := by decide +kernel
theorem dX10_send_61 : decode cX10_send 61 = .ok (.getfield 41, 3) := by decide +kernel
theorem dX10_send_64 : decode cX10_send 64 = .ok (.aload_n 0, 1) := by decide +kernel
theorem dX10_send_65 : decode cX10_send 65 = .ok (.getfield 55, 3) := by decide +kernel
theorem dX10_send_68 : decode cX10_send 68 = .ok (.iload_n 2, 1) := by decide +kernel
theorem dX10_send_69 : decode cX10_send 69 = .ok (.invokevirtual 173, 3) := by decide +kernel
theorem dX10_send_72 : decode cX10_send 72 = .ok (.ireturn, 1) := by decide +kernel
theorem dX10_reading_0 : decode cX10_reading 0 = .ok (.aload_n 0, 1) := by decide +kernel
theorem dX10_reading_1 : decode cX10_reading 1 = .ok (.getfield 55, 3) := by decide +kernel
theorem dX10_reading_4 : decode cX10_reading 4 = .ok (.iload_n 1, 1) := by decide +kernel
theorem dX10_reading_5 : decode cX10_reading 5 = .ok (.invokevirtual 95, 3) := by decide +kernel
theorem dX10_reading_8 : decode cX10_reading 8 = .ok (.ifnonnull 5, 3) := by decide +kernel
theorem dX10_reading_11 : decode cX10_reading 11 = .ok (.iconst (-1), 1) := by decide +kernel
theorem dX10_reading_12 : decode cX10_reading 12 = .ok (.ireturn, 1) := by decide +kernel
theorem dX10_reading_13 : decode cX10_reading 13 = .ok (.iload_n 2, 1) := by decide +kernel
theorem dX10_reading_14 : decode cX10_reading 14 = .ok (.invokestatic 130, 3) := by decide +kernel
theorem dX10_reading_17 : decode cX10_reading 17 = .ok (.ifCond .eq 13, 3) := by decide +kernel
theorem dX10_reading_20 : decode cX10_reading 20 = .ok (.iload_n 3, 1) := by decide +kernel
theorem dX10_reading_21 : decode cX10_reading 21 = .ok (.ifCond .lt 9, 3) := by decide +kernel
theorem dX10_reading_24 : decode cX10_reading 24 = .ok (.iload_n 3, 1) := by decide +kernel
theorem dX10_reading_25 : decode cX10_reading 25 = .ok (.bipush 40, 2) := by decide +kernel
theorem dX10_reading_27 : decode cX10_reading 27 = .ok (.if_icmp .le 6, 3) := by decide +kernel
theorem dX10_reading_30 : decode cX10_reading 30 = .ok (.bipush (-2), 2) := by decide +kernel
theorem dX10_reading_32 : decode cX10_reading 32 = .ok (.ireturn, 1) := by decide +kernel
theorem dX10_reading_33 : decode cX10_reading 33 = .ok (.aload_n 0, 1) := by decide +kernel
theorem dX10_reading_34 : decode cX10_reading 34 = .ok (.getfield 27, 3) := by decide +kernel
theorem dX10_reading_37 : decode cX10_reading 37 = .ok (.iload_n 1, 1) := by decide +kernel
theorem dX10_reading_38 : decode cX10_reading 38 = .ok (.iload_n 2, 1) := by decide +kernel
theorem dX10_reading_39 : decode cX10_reading 39 = .ok (.iload_n 3, 1) := by decide +kernel
theorem dX10_reading_40 : decode cX10_reading 40 = .ok (.invokevirtual 176, 3) := by decide +kernel
theorem dX10_reading_43 : decode cX10_reading 43 = .ok (.ireturn, 1) := by decide +kernel
theorem dX10_back_0 : decode cX10_back 0 = .ok (.iload_n 1, 1) := by decide +kernel
theorem dX10_back_1 : decode cX10_back 1 = .ok (.ifCond .lt 14, 3) := by decide +kernel
theorem dX10_back_4 : decode cX10_back 4 = .ok (.iload_n 1, 1) := by decide +kernel
theorem dX10_back_5 : decode cX10_back 5 = .ok (.aload_n 0, 1) := by decide +kernel
theorem dX10_back_6 : decode cX10_back 6 = .ok (.getfield 27, 3) := by decide +kernel
theorem dX10_back_9 : decode cX10_back 9 = .ok (.getfield 89, 3) := by decide +kernel
theorem dX10_back_12 : decode cX10_back 12 = .ok (.if_icmp .le 6, 3) := by decide +kernel
theorem dX10_back_15 : decode cX10_back 15 = .ok (.bipush (-2), 2) := by decide +kernel
theorem dX10_back_17 : decode cX10_back 17 = .ok (.ireturn, 1) := by decide +kernel
theorem dX10_back_18 : decode cX10_back 18 = .ok (.aload_n 0, 1) := by decide +kernel
theorem dX10_back_19 : decode cX10_back 19 = .ok (.getfield 27, 3) := by decide +kernel
theorem dX10_back_22 : decode cX10_back 22 = .ok (.dup, 1) := by decide +kernel
theorem dX10_back_23 : decode cX10_back 23 = .ok (.getfield 89, 3) := by decide +kernel
theorem dX10_back_26 : decode cX10_back 26 = .ok (.iload_n 1, 1) := by decide +kernel
theorem dX10_back_27 : decode cX10_back 27 = .ok (.isub, 1) := by decide +kernel
theorem dX10_back_28 : decode cX10_back 28 = .ok (.putfield 89, 3) := by decide +kernel
theorem dX10_back_31 : decode cX10_back 31 = .ok (.aload_n 0, 1) := by decide +kernel
theorem dX10_back_32 : decode cX10_back 32 = .ok (.getfield 27, 3) := by decide +kernel
theorem dX10_back_35 : decode cX10_back 35 = .ok (.getfield 89, 3) := by decide +kernel
theorem dX10_back_38 : decode cX10_back 38 = .ok (.ireturn, 1) := by decide +kernel
theorem dX10_minds_0 : decode cX10_minds 0 = .ok (.aload_n 0, 1) := by decide +kernel
theorem dX10_minds_1 : decode cX10_minds 1 = .ok (.getfield 55, 3) := by decide +kernel
theorem dX10_minds_4 : decode cX10_minds 4 = .ok (.iload_n 1, 1) := by decide +kernel
theorem dX10_minds_5 : decode cX10_minds 5 = .ok (.invokevirtual 95, 3) := by decide +kernel
theorem dX10_minds_8 : decode cX10_minds 8 = .ok (.astore_n 2, 1) := by decide +kernel
theorem dX10_minds_9 : decode cX10_minds 9 = .ok (.aload_n 2, 1) := by decide +kernel
theorem dX10_minds_10 : decode cX10_minds 10 = .ok (.ifnonnull 5, 3) := by decide +kernel
theorem dX10_minds_13 : decode cX10_minds 13 = .ok (.iconst (-1), 1) := by decide +kernel
theorem dX10_minds_14 : decode cX10_minds 14 = .ok (.ireturn, 1) := by decide +kernel
theorem dX10_minds_15 : decode cX10_minds 15 = .ok (.aload_n 2, 1) := by decide +kernel
theorem dX10_minds_16 : decode cX10_minds 16 = .ok (.getfield 108, 3) := by decide +kernel
theorem dX10_minds_19 : decode cX10_minds 19 = .ok (.istore_n 3, 1) := by decide +kernel
theorem dX10_minds_20 : decode cX10_minds 20 = .ok (.iconst 0, 1) := by decide +kernel
theorem dX10_minds_21 : decode cX10_minds 21 = .ok (.istore 4, 2) := by decide +kernel
theorem dX10_minds_23 : decode cX10_minds 23 = .ok (.iconst 0, 1) := by decide +kernel
theorem dX10_minds_24 : decode cX10_minds 24 = .ok (.istore 5, 2) := by decide +kernel
theorem dX10_minds_26 : decode cX10_minds 26 = .ok (.iload 5, 2) := by decide +kernel
theorem dX10_minds_28 : decode cX10_minds 28 = .ok (.bipush 9, 2) := by decide +kernel
theorem dX10_minds_30 : decode cX10_minds 30 = .ok (.if_icmp .gt 38, 3) := by decide +kernel
theorem dX10_minds_33 : decode cX10_minds 33 = .ok (.aload_n 2, 1) := by decide +kernel
theorem dX10_minds_34 : decode cX10_minds 34 = .ok (.iload 5, 2) := by decide +kernel
theorem dX10_minds_36 : decode cX10_minds 36 = .ok (.putfield 108, 3) := by decide +kernel
theorem dX10_minds_39 : decode cX10_minds 39 = .ok (.aload_n 0, 1) := by decide +kernel
theorem dX10_minds_40 : decode cX10_minds 40 = .ok (.getfield 27, 3) := by decide +kernel
theorem dX10_minds_43 : decode cX10_minds 43 = .ok (.aload_n 0, 1) := by decide +kernel
theorem dX10_minds_44 : decode cX10_minds 44 = .ok (.getfield 55, 3) := by decide +kernel
theorem dX10_minds_47 : decode cX10_minds 47 = .ok (.invokevirtual 180, 3) := by decide +kernel
theorem dX10_minds_50 : decode cX10_minds 50 = .ok (.ifCond .eq 12, 3) := by decide +kernel
theorem dX10_minds_53 : decode cX10_minds 53 = .ok (.iload 4, 2) := by decide +kernel
theorem dX10_minds_55 : decode cX10_minds 55 = .ok (.iconst 1, 1) := by decide +kernel
theorem dX10_minds_56 : decode cX10_minds 56 = .ok (.iload 5, 2) := by decide +kernel
theorem dX10_minds_58 : decode cX10_minds 58 = .ok (.ishl, 1) := by decide +kernel
theorem dX10_minds_59 : decode cX10_minds 59 = .ok (.ior, 1) := by decide +kernel
theorem dX10_minds_60 : decode cX10_minds 60 = .ok (.istore 4, 2) := by decide +kernel
theorem dX10_minds_62 : decode cX10_minds 62 = .ok (.iinc 5 1, 3) := by decide +kernel
theorem dX10_minds_65 : decode cX10_minds 65 = .ok (.goto (-39), 3) := by decide +kernel
theorem dX10_minds_68 : decode cX10_minds 68 = .ok (.aload_n 2, 1) := by decide +kernel
theorem dX10_minds_69 : decode cX10_minds 69 = .ok (.iload_n 3, 1) := by decide +kernel
theorem dX10_minds_70 : decode cX10_minds 70 = .ok (.putfield 108, 3) := by decide +kernel
theorem dX10_minds_73 : decode cX10_minds 73 = .ok (.iload 4, 2) := by decide +kernel
theorem dX10_minds_75 : decode cX10_minds 75 = .ok (.ireturn, 1) := by decide +kernel
theorem dX10_kinds_0 : decode cX10_kinds 0 = .ok (.aload_n 0, 1) := by decide +kernel
theorem dX10_kinds_1 : decode cX10_kinds 1 = .ok (.getfield 55, 3) := by decide +kernel
theorem dX10_kinds_4 : decode cX10_kinds 4 = .ok (.iload_n 1, 1) := by decide +kernel
theorem dX10_kinds_5 : decode cX10_kinds 5 = .ok (.invokevirtual 95, 3) := by decide +kernel
theorem dX10_kinds_8 : decode cX10_kinds 8 = .ok (.astore_n 2, 1) := by decide +kernel
theorem dX10_kinds_9 : decode cX10_kinds 9 = .ok (.aload_n 2, 1) := by decide +kernel
theorem dX10_kinds_10 : decode cX10_kinds 10 = .ok (.ifnonnull 5, 3) := by decide +kernel
theorem dX10_kinds_13 : decode cX10_kinds 13 = .ok (.iconst (-1), 1) := by decide +kernel
theorem dX10_kinds_14 : decode cX10_kinds 14 = .ok (.ireturn, 1) := by decide +kernel
theorem dX10_kinds_15 : decode cX10_kinds 15 = .ok (.iconst 0, 1) := by decide +kernel
theorem dX10_kinds_16 : decode cX10_kinds 16 = .ok (.istore_n 3, 1) := by decide +kernel
theorem dX10_kinds_17 : decode cX10_kinds 17 = .ok (.iconst 0, 1) := by decide +kernel
theorem dX10_kinds_18 : decode cX10_kinds 18 = .ok (.istore 4, 2) := by decide +kernel
theorem dX10_kinds_20 : decode cX10_kinds 20 = .ok (.iload 4, 2) := by decide +kernel
theorem dX10_kinds_22 : decode cX10_kinds 22 = .ok (.iconst 2, 1) := by decide +kernel
theorem dX10_kinds_23 : decode cX10_kinds 23 = .ok (.if_icmp .gt 53, 3) := by decide +kernel
theorem dX10_kinds_26 : decode cX10_kinds 26 = .ok (.aload_n 0, 1) := by decide +kernel
theorem dX10_kinds_27 : decode cX10_kinds 27 = .ok (.getfield 55, 3) := by decide +kernel
theorem dX10_kinds_30 : decode cX10_kinds 30 = .ok (.getfield 184, 3) := by decide +kernel
theorem dX10_kinds_33 : decode cX10_kinds 33 = .ok (.iload_n 1, 1) := by decide +kernel
theorem dX10_kinds_34 : decode cX10_kinds 34 = .ok (.iload 4, 2) := by decide +kernel
theorem dX10_kinds_36 : decode cX10_kinds 36 = .ok (.iload_n 1, 1) := by decide +kernel
theorem dX10_kinds_37 : decode cX10_kinds 37 = .ok (.aload_n 2, 1) := by decide +kernel
theorem dX10_kinds_38 : decode cX10_kinds 38 = .ok (.getfield 105, 3) := by decide +kernel
theorem dX10_kinds_41 : decode cX10_kinds 41 = .ok (.aload_n 2, 1) := by decide +kernel
theorem dX10_kinds_42 : decode cX10_kinds 42 = .ok (.getfield 108, 3) := by decide +kernel
theorem dX10_kinds_45 : decode cX10_kinds 45 = .ok (.invokestatic 188, 3) := by decide +kernel
theorem dX10_kinds_48 : decode cX10_kinds 48 = .ok (.aastore, 1) := by decide +kernel
theorem dX10_kinds_49 : decode cX10_kinds 49 = .ok (.aload_n 0, 1) := by decide +kernel
theorem dX10_kinds_50 : decode cX10_kinds 50 = .ok (.getfield 27, 3) := by decide +kernel
theorem dX10_kinds_53 : decode cX10_kinds 53 = .ok (.aload_n 0, 1) := by decide +kernel
theorem dX10_kinds_54 : decode cX10_kinds 54 = .ok (.getfield 55, 3) := by decide +kernel
theorem dX10_kinds_57 : decode cX10_kinds 57 = .ok (.invokevirtual 180, 3) := by decide +kernel
theorem dX10_kinds_60 : decode cX10_kinds 60 = .ok (.ifCond .eq 10, 3) := by decide +kernel
theorem dX10_kinds_63 : decode cX10_kinds 63 = .ok (.iload_n 3, 1) := by decide +kernel
theorem dX10_kinds_64 : decode cX10_kinds 64 = .ok (.iconst 1, 1) := by decide +kernel
theorem dX10_kinds_65 : decode cX10_kinds 65 = .ok (.iload 4, 2) := by decide +kernel
theorem dX10_kinds_67 : decode cX10_kinds 67 = .ok (.ishl, 1) := by decide +kernel
theorem dX10_kinds_68 : decode cX10_kinds 68 = .ok (.ior, 1) := by decide +kernel
theorem dX10_kinds_69 : decode cX10_kinds 69 = .ok (.istore_n 3, 1) := by decide +kernel
theorem dX10_kinds_70 : decode cX10_kinds 70 = .ok (.iinc 4 1, 3) := by decide +kernel
theorem dX10_kinds_73 : decode cX10_kinds 73 = .ok (.goto (-53), 3) := by decide +kernel
theorem dX10_kinds_76 : decode cX10_kinds 76 = .ok (.aload_n 0, 1) := by decide +kernel
theorem dX10_kinds_77 : decode cX10_kinds 77 = .ok (.getfield 55, 3) := by decide +kernel
theorem dX10_kinds_80 : decode cX10_kinds 80 = .ok (.getfield 184, 3) := by decide +kernel
theorem dX10_kinds_83 : decode cX10_kinds 83 = .ok (.iload_n 1, 1) := by decide +kernel
theorem dX10_kinds_84 : decode cX10_kinds 84 = .ok (.aload_n 2, 1) := by decide +kernel
theorem dX10_kinds_85 : decode cX10_kinds 85 = .ok (.aastore, 1) := by decide +kernel
theorem dX10_kinds_86 : decode cX10_kinds 86 = .ok (.iload_n 3, 1) := by decide +kernel
theorem dX10_kinds_87 : decode cX10_kinds 87 = .ok (.ireturn, 1) := by decide +kernel
theorem dX10_glooms_0 : decode cX10_glooms 0 = .ok (.aload_n 0, 1) := by decide +kernel
theorem dX10_glooms_1 : decode cX10_glooms 1 = .ok (.getfield 55, 3) := by decide +kernel
theorem dX10_glooms_4 : decode cX10_glooms 4 = .ok (.iload_n 1, 1) := by decide +kernel
theorem dX10_glooms_5 : decode cX10_glooms 5 = .ok (.invokevirtual 118, 3) := by decide +kernel
theorem dX10_glooms_8 : decode cX10_glooms 8 = .ok (.ifCond .ne 5, 3) := by decide +kernel
theorem dX10_glooms_11 : decode cX10_glooms 11 = .ok (.iconst (-1), 1) := by decide +kernel
theorem dX10_glooms_12 : decode cX10_glooms 12 = .ok (.ireturn, 1) := by decide +kernel
theorem dX10_glooms_13 : decode cX10_glooms 13 = .ok (.aload_n 0, 1) := by decide +kernel
theorem dX10_glooms_14 : decode cX10_glooms 14 = .ok (.getfield 55, 3) := by decide +kernel
theorem dX10_glooms_17 : decode cX10_glooms 17 = .ok (.getfield 121, 3) := by decide +kernel
theorem dX10_glooms_20 : decode cX10_glooms 20 = .ok (.iload_n 1, 1) := by decide +kernel
theorem dX10_glooms_21 : decode cX10_glooms 21 = .ok (.iaload, 1) := by decide +kernel
theorem dX10_glooms_22 : decode cX10_glooms 22 = .ok (.istore_n 2, 1) := by decide +kernel
theorem dX10_glooms_23 : decode cX10_glooms 23 = .ok (.iconst 0, 1) := by decide +kernel
theorem dX10_glooms_24 : decode cX10_glooms 24 = .ok (.istore_n 3, 1) := by decide +kernel
theorem dX10_glooms_25 : decode cX10_glooms 25 = .ok (.iconst 0, 1) := by decide +kernel
theorem dX10_glooms_26 : decode cX10_glooms 26 = .ok (.istore 4, 2) := by decide +kernel
theorem dX10_glooms_28 : decode cX10_glooms 28 = .ok (.iload 4, 2) := by decide +kernel
theorem dX10_glooms_30 : decode cX10_glooms 30 = .ok (.bipush 9, 2) := by decide +kernel
theorem dX10_glooms_32 : decode cX10_glooms 32 = .ok (.if_icmp .gt 41, 3) := by decide +kernel
theorem dX10_glooms_35 : decode cX10_glooms 35 = .ok (.aload_n 0, 1) := by decide +kernel
theorem dX10_glooms_36 : decode cX10_glooms 36 = .ok (.getfield 55, 3) := by decide +kernel
theorem dX10_glooms_39 : decode cX10_glooms 39 = .ok (.getfield 121, 3) := by decide +kernel
theorem dX10_glooms_42 : decode cX10_glooms 42 = .ok (.iload_n 1, 1) := by decide +kernel
theorem dX10_glooms_43 : decode cX10_glooms 43 = .ok (.iload 4, 2) := by decide +kernel
theorem dX10_glooms_45 : decode cX10_glooms 45 = .ok (.iastore, 1) := by decide +kernel
theorem dX10_glooms_46 : decode cX10_glooms 46 = .ok (.aload_n 0, 1) := by decide +kernel
theorem dX10_glooms_47 : decode cX10_glooms 47 = .ok (.getfield 27, 3) := by decide +kernel
theorem dX10_glooms_50 : decode cX10_glooms 50 = .ok (.aload_n 0, 1) := by decide +kernel
theorem dX10_glooms_51 : decode cX10_glooms 51 = .ok (.getfield 55, 3) := by decide +kernel
theorem dX10_glooms_54 : decode cX10_glooms 54 = .ok (.invokevirtual 180, 3) := by decide +kernel
theorem dX10_glooms_57 : decode cX10_glooms 57 = .ok (.ifCond .eq 10, 3) := by decide +kernel
theorem dX10_glooms_60 : decode cX10_glooms 60 = .ok (.iload_n 3, 1) := by decide +kernel
theorem dX10_glooms_61 : decode cX10_glooms 61 = .ok (.iconst 1, 1) := by decide +kernel
theorem dX10_glooms_62 : decode cX10_glooms 62 = .ok (.iload 4, 2) := by decide +kernel
theorem dX10_glooms_64 : decode cX10_glooms 64 = .ok (.ishl, 1) := by decide +kernel
theorem dX10_glooms_65 : decode cX10_glooms 65 = .ok (.ior, 1) := by decide +kernel
theorem dX10_glooms_66 : decode cX10_glooms 66 = .ok (.istore_n 3, 1) := by decide +kernel
theorem dX10_glooms_67 : decode cX10_glooms 67 = .ok (.iinc 4 1, 3) := by decide +kernel
theorem dX10_glooms_70 : decode cX10_glooms 70 = .ok (.goto (-42), 3) := by decide +kernel
theorem dX10_glooms_73 : decode cX10_glooms 73 = .ok (.aload_n 0, 1) := by decide +kernel
theorem dX10_glooms_74 : decode cX10_glooms 74 = .ok (.getfield 55, 3) := by decide +kernel
theorem dX10_glooms_77 : decode cX10_glooms 77 = .ok (.getfield 121, 3) := by decide +kernel
theorem dX10_glooms_80 : decode cX10_glooms 80 = .ok (.iload_n 1, 1) := by decide +kernel
theorem dX10_glooms_81 : decode cX10_glooms 81 = .ok (.iload_n 2, 1) := by decide +kernel
theorem dX10_glooms_82 : decode cX10_glooms 82 = .ok (.iastore, 1) := by decide +kernel
theorem dX10_glooms_83 : decode cX10_glooms 83 = .ok (.iload_n 3, 1) := by decide +kernel
theorem dX10_glooms_84 : decode cX10_glooms 84 = .ok (.ireturn, 1) := by decide +kernel
theorem dX10_odds_0 : decode cX10_odds 0 = .ok (.aload_n 0, 1) := by decide +kernel
theorem dX10_odds_1 : decode cX10_odds 1 = .ok (.getfield 55, 3) := by decide +kernel
theorem dX10_odds_4 : decode cX10_odds 4 = .ok (.iload_n 1, 1) := by decide +kernel
theorem dX10_odds_5 : decode cX10_odds 5 = .ok (.invokevirtual 95, 3) := by decide +kernel
theorem dX10_odds_8 : decode cX10_odds 8 = .ok (.astore 4, 2) := by decide +kernel
theorem dX10_odds_10 : decode cX10_odds 10 = .ok (.aload 4, 2) := by decide +kernel
theorem dX10_odds_12 : decode cX10_odds 12 = .ok (.ifnull 22, 3) := by decide +kernel
theorem dX10_odds_15 : decode cX10_odds 15 = .ok (.iload_n 2, 1) := by decide +kernel
theorem dX10_odds_16 : decode cX10_odds 16 = .ok (.ifCond .lt 18, 3) := by decide +kernel
theorem dX10_odds_19 : decode cX10_odds 19 = .ok (.iload_n 2, 1) := by decide +kernel
theorem dX10_odds_20 : decode cX10_odds 20 = .ok (.bipush 40, 2) := by decide +kernel
theorem dX10_odds_22 : decode cX10_odds 22 = .ok (.if_icmp .gt 12, 3) := by decide +kernel
theorem dX10_odds_25 : decode cX10_odds 25 = .ok (.iload_n 3, 1) := by decide +kernel
theorem dX10_odds_26 : decode cX10_odds 26 = .ok (.ifCond .lt 8, 3) := by decide +kernel
theorem dX10_odds_29 : decode cX10_odds 29 = .ok (.iload_n 3, 1) := by decide +kernel
theorem dX10_odds_30 : decode cX10_odds 30 = .ok (.iconst 1, 1) := by decide +kernel
theorem dX10_odds_31 : decode cX10_odds 31 = .ok (.if_icmp .le 7, 3) := by decide +kernel
theorem dX10_odds_34 : decode cX10_odds 34 = .ok (.ldc2_w 192, 3) := by decide +kernel
theorem dX10_odds_37 : decode cX10_odds 37 = .ok (.lreturn, 1) := by decide +kernel
theorem dX10_odds_38 : decode cX10_odds 38 = .ok (.aload_n 0, 1) := by decide +kernel
theorem dX10_odds_39 : decode cX10_odds 39 = .ok (.getfield 55, 3) := by decide +kernel
theorem dX10_odds_42 : decode cX10_odds 42 = .ok (.aload 4, 2) := by decide +kernel
theorem dX10_odds_44 : decode cX10_odds 44 = .ok (.iload_n 2, 1) := by decide +kernel
theorem dX10_odds_45 : decode cX10_odds 45 = .ok (.invokevirtual 194, 3) := by decide +kernel
theorem dX10_odds_48 : decode cX10_odds 48 = .ok (.istore 5, 2) := by decide +kernel
theorem dX10_odds_50 : decode cX10_odds 50 = .ok (.iconst 1, 1) := by decide +kernel
theorem dX10_odds_51 : decode cX10_odds 51 = .ok (.aload_n 0, 1) := by decide +kernel
theorem dX10_odds_52 : decode cX10_odds 52 = .ok (.getfield 55, 3) := by decide +kernel
theorem dX10_odds_55 : decode cX10_odds 55 = .ok (.getfield 197, 3) := by decide +kernel
theorem dX10_odds_58 : decode cX10_odds 58 = .ok (.ishl, 1) := by decide +kernel
theorem dX10_odds_59 : decode cX10_odds 59 = .ok (.istore 6, 2) := by decide +kernel
theorem dX10_odds_61 : decode cX10_odds 61 = .ok (.iconst 0, 1) := by decide +kernel
theorem dX10_odds_62 : decode cX10_odds 62 = .ok (.istore 7, 2) := by decide +kernel
theorem dX10_odds_64 : decode cX10_odds 64 = .ok (.iload 7, 2) := by decide +kernel
theorem dX10_odds_66 : decode cX10_odds 66 = .ok (.aload_n 0, 1) := by decide +kernel
theorem dX10_odds_67 : decode cX10_odds 67 = .ok (.getfield 55, 3) := by decide +kernel
theorem dX10_odds_70 : decode cX10_odds 70 = .ok (.getfield 197, 3) := by decide +kernel
theorem dX10_odds_73 : decode cX10_odds 73 = .ok (.if_icmp .ge 28, 3) := by decide +kernel
theorem dX10_odds_76 : decode cX10_odds 76 = .ok (.iload 5, 2) := by decide +kernel
theorem dX10_odds_78 : decode cX10_odds 78 = .ok (.iconst 2, 1) := by decide +kernel
theorem dX10_odds_79 : decode cX10_odds 79 = .ok (.irem, 1) := by decide +kernel
theorem dX10_odds_80 : decode cX10_odds 80 = .ok (.ifCond .ne 21, 3) := by decide +kernel
theorem dX10_odds_83 : decode cX10_odds 83 = .ok (.iload 5, 2) := by decide +kernel
theorem dX10_odds_85 : decode cX10_odds 85 = .ok (.iconst 2, 1) := by decide +kernel
theorem dX10_odds_86 : decode cX10_odds 86 = .ok (.idiv, 1) := by decide +kernel
theorem dX10_odds_87 : decode cX10_odds 87 = .ok (.istore 5, 2) := by decide +kernel
theorem dX10_odds_89 : decode cX10_odds 89 = .ok (.iload 6, 2) := by decide +kernel
theorem dX10_odds_91 : decode cX10_odds 91 = .ok (.iconst 2, 1) := by decide +kernel
theorem dX10_odds_92 : decode cX10_odds 92 = .ok (.idiv, 1) := by decide +kernel
theorem dX10_odds_93 : decode cX10_odds 93 = .ok (.istore 6, 2) := by decide +kernel
theorem dX10_odds_95 : decode cX10_odds 95 = .ok (.iinc 7 1, 3) := by decide +kernel
theorem dX10_odds_98 : decode cX10_odds 98 = .ok (.goto (-34), 3) := by decide +kernel
theorem dX10_odds_101 : decode cX10_odds 101 = .ok (.iload_n 3, 1) := by decide +kernel
theorem dX10_odds_102 : decode cX10_odds 102 = .ok (.ifCond .ne 9, 3) := by decide +kernel
theorem dX10_odds_105 : decode cX10_odds 105 = .ok (.iload 5, 2) := by decide +kernel
theorem dX10_odds_107 : decode cX10_odds 107 = .ok (.i2l, 1) := by decide +kernel
theorem dX10_odds_108 : decode cX10_odds 108 = .ok (.goto 6, 3) := by decide +kernel
theorem dX10_odds_111 : decode cX10_odds 111 = .ok (.iload 6, 2) := by decide +kernel
theorem dX10_odds_113 : decode cX10_odds 113 = .ok (.i2l, 1) := by decide +kernel
theorem dX10_odds_114 : decode cX10_odds 114 = .ok (.lreturn, 1) := by decide +kernel
theorem dX10_sheet_0 : decode cX10_sheet 0 = .ok (.aload_n 0, 1) := by decide +kernel
theorem dX10_sheet_1 : decode cX10_sheet 1 = .ok (.iconst 0, 1) := by decide +kernel
theorem dX10_sheet_2 : decode cX10_sheet 2 = .ok (.putfield 59, 3) := by decide +kernel
theorem dX10_sheet_5 : decode cX10_sheet 5 = .ok (.iload_n 1, 1) := by decide +kernel
theorem dX10_sheet_6 : decode cX10_sheet 6 = .ok (.invokestatic 63, 3) := by decide +kernel
theorem dX10_sheet_9 : decode cX10_sheet 9 = .ok (.ifCond .ne 5, 3) := by decide +kernel
theorem dX10_sheet_12 : decode cX10_sheet 12 = .ok (.iconst (-1), 1) := by decide +kernel
theorem dX10_sheet_13 : decode cX10_sheet 13 = .ok (.ireturn, 1) := by decide +kernel
theorem dX10_sheet_14 : decode cX10_sheet 14 = .ok (.iload_n 2, 1) := by decide +kernel
theorem dX10_sheet_15 : decode cX10_sheet 15 = .ok (.invokestatic 67, 3) := by decide +kernel
theorem dX10_sheet_18 : decode cX10_sheet 18 = .ok (.ifCond .eq 9, 3) := by decide +kernel
theorem dX10_sheet_21 : decode cX10_sheet 21 = .ok (.iload_n 3, 1) := by decide +kernel
theorem dX10_sheet_22 : decode cX10_sheet 22 = .ok (.bipush 60, 2) := by decide +kernel
theorem dX10_sheet_24 : decode cX10_sheet 24 = .ok (.if_icmp .le 6, 3) := by decide +kernel
theorem dX10_sheet_27 : decode cX10_sheet 27 = .ok (.bipush (-2), 2) := by decide +kernel
theorem dX10_sheet_29 : decode cX10_sheet 29 = .ok (.ireturn, 1) := by decide +kernel
theorem dX10_sheet_30 : decode cX10_sheet 30 = .ok (.iload_n 3, 1) := by decide +kernel
theorem dX10_sheet_31 : decode cX10_sheet 31 = .ok (.ifCond .ge 9, 3) := by decide +kernel
theorem dX10_sheet_34 : decode cX10_sheet 34 = .ok (.aload_n 0, 1) := by decide +kernel
theorem dX10_sheet_35 : decode cX10_sheet 35 = .ok (.iconst 4, 1) := by decide +kernel
theorem dX10_sheet_36 : decode cX10_sheet 36 = .ok (.invokevirtual 70, 3) := by decide +kernel
theorem dX10_sheet_39 : decode cX10_sheet 39 = .ok (.ireturn, 1) := by decide +kernel
theorem dX10_sheet_40 : decode cX10_sheet 40 = .ok (.aload_n 0, 1) := by decide +kernel
theorem dX10_sheet_41 : decode cX10_sheet 41 = .ok (.getfield 13, 3) := by decide +kernel
theorem dX10_sheet_44 : decode cX10_sheet 44 = .ok (.iload_n 1, 1) := by decide +kernel
theorem dX10_sheet_45 : decode cX10_sheet 45 = .ok (.new 11, 3) := by decide +kernel
theorem dX10_sheet_48 : decode cX10_sheet 48 = .ok (.dup, 1) := by decide +kernel
theorem dX10_sheet_49 : decode cX10_sheet 49 = .ok (.iload_n 2, 1) := by decide +kernel
theorem dX10_sheet_50 : decode cX10_sheet 50 = .ok (.iload_n 3, 1) := by decide +kernel
theorem dX10_sheet_51 : decode cX10_sheet 51 = .ok (.invokespecial 200, 3) := by decide +kernel
theorem dX10_sheet_54 : decode cX10_sheet 54 = .ok (.aastore, 1) := by decide +kernel
theorem dX10_sheet_55 : decode cX10_sheet 55 = .ok (.iconst 1, 1) := by decide +kernel
theorem dX10_sheet_56 : decode cX10_sheet 56 = .ok (.ireturn, 1) := by decide +kernel
theorem dX10_lose_0 : decode cX10_lose 0 = .ok (.iload_n 1, 1) := by decide +kernel
theorem dX10_lose_1 : decode cX10_lose 1 = .ok (.invokestatic 63, 3) := by decide +kernel
theorem dX10_lose_4 : decode cX10_lose 4 = .ok (.ifCond .ne 5, 3) := by decide +kernel
theorem dX10_lose_7 : decode cX10_lose 7 = .ok (.iconst (-1), 1) := by decide +kernel
theorem dX10_lose_8 : decode cX10_lose 8 = .ok (.ireturn, 1) := by decide +kernel
theorem dX10_lose_9 : decode cX10_lose 9 = .ok (.aload_n 0, 1) := by decide +kernel
theorem dX10_lose_10 : decode cX10_lose 10 = .ok (.getfield 13, 3) := by decide +kernel
theorem dX10_lose_13 : decode cX10_lose 13 = .ok (.iload_n 1, 1) := by decide +kernel
theorem dX10_lose_14 : decode cX10_lose 14 = .ok (.aaload, 1) := by decide +kernel
theorem dX10_lose_15 : decode cX10_lose 15 = .ok (.ifnonnull 7, 3) := by decide +kernel
theorem dX10_lose_18 : decode cX10_lose 18 = .ok (.iconst 0, 1) := by decide +kernel
theorem dX10_lose_19 : decode cX10_lose 19 = .ok (.goto 4, 3) := by decide +kernel
theorem dX10_lose_22 : decode cX10_lose 22 = .ok (.iconst 1, 1) := by decide +kernel
theorem dX10_lose_23 : decode cX10_lose 23 = .ok (.istore_n 2, 1) := by decide +kernel
theorem dX10_lose_24 : decode cX10_lose 24 = .ok (.aload_n 0, 1) := by decide +kernel
theorem dX10_lose_25 : decode cX10_lose 25 = .ok (.getfield 13, 3) := by decide +kernel
theorem dX10_lose_28 : decode cX10_lose 28 = .ok (.iload_n 1, 1) := by decide +kernel
theorem dX10_lose_29 : decode cX10_lose 29 = .ok (.aconst_null, 1) := by decide +kernel
theorem dX10_lose_30 : decode cX10_lose 30 = .ok (.aastore, 1) := by decide +kernel
theorem dX10_lose_31 : decode cX10_lose 31 = .ok (.iload_n 2, 1) := by decide +kernel
theorem dX10_lose_32 : decode cX10_lose 32 = .ok (.ireturn, 1) := by decide +kernel
theorem dX10_put_0 : decode cX10_put 0 = .ok (.aload_n 0, 1) := by decide +kernel
theorem dX10_put_1 : decode cX10_put 1 = .ok (.iconst 0, 1) := by decide +kernel
theorem dX10_put_2 : decode cX10_put 2 = .ok (.putfield 59, 3) := by decide +kernel
theorem dX10_put_5 : decode cX10_put 5 = .ok (.iload_n 1, 1) := by decide +kernel
theorem dX10_put_6 : decode cX10_put 6 = .ok (.invokestatic 63, 3) := by decide +kernel
theorem dX10_put_9 : decode cX10_put 9 = .ok (.ifCond .ne 5, 3) := by decide +kernel
theorem dX10_put_12 : decode cX10_put 12 = .ok (.iconst (-1), 1) := by decide +kernel
theorem dX10_put_13 : decode cX10_put 13 = .ok (.ireturn, 1) := by decide +kernel
theorem dX10_put_14 : decode cX10_put 14 = .ok (.aload_n 0, 1) := by decide +kernel
theorem dX10_put_15 : decode cX10_put 15 = .ok (.getfield 13, 3) := by decide +kernel
theorem dX10_put_18 : decode cX10_put 18 = .ok (.iload_n 1, 1) := by decide +kernel
theorem dX10_put_19 : decode cX10_put 19 = .ok (.aaload, 1) := by decide +kernel
theorem dX10_put_20 : decode cX10_put 20 = .ok (.astore 4, 2) := by decide +kernel
theorem dX10_put_22 : decode cX10_put 22 = .ok (.aload 4, 2) := by decide +kernel
theorem dX10_put_24 : decode cX10_put 24 = .ok (.ifnonnull 9, 3) := by decide +kernel
theorem dX10_put_27 : decode cX10_put 27 = .ok (.aload_n 0, 1) := by decide +kernel
theorem dX10_put_28 : decode cX10_put 28 = .ok (.iconst 1, 1) := by decide +kernel
theorem dX10_put_29 : decode cX10_put 29 = .ok (.invokevirtual 70, 3) := by decide +kernel
theorem dX10_put_32 : decode cX10_put 32 = .ok (.ireturn, 1) := by decide +kernel
theorem dX10_put_33 : decode cX10_put 33 = .ok (.aload 4, 2) := by decide +kernel
theorem dX10_put_35 : decode cX10_put 35 = .ok (.iload_n 2, 1) := by decide +kernel
theorem dX10_put_36 : decode cX10_put 36 = .ok (.iconst 1, 1) := by decide +kernel
theorem dX10_put_37 : decode cX10_put 37 = .ok (.invokevirtual 77, 3) := by decide +kernel
theorem dX10_put_40 : decode cX10_put 40 = .ok (.ifCond .ne 9, 3) := by decide +kernel
theorem dX10_put_43 : decode cX10_put 43 = .ok (.aload_n 0, 1) := by decide +kernel
theorem dX10_put_44 : decode cX10_put 44 = .ok (.iconst 3, 1) := by decide +kernel
theorem dX10_put_45 : decode cX10_put 45 = .ok (.invokevirtual 70, 3) := by decide +kernel
theorem dX10_put_48 : decode cX10_put 48 = .ok (.ireturn, 1) := by decide +kernel
theorem dX10_put_49 : decode cX10_put 49 = .ok (.aload 4, 2) := by decide +kernel
theorem dX10_put_51 : decode cX10_put 51 = .ok (.getfield 203, 3) := by decide +kernel
theorem dX10_put_54 : decode cX10_put 54 = .ok (.iload_n 2, 1) := by decide +kernel
theorem dX10_put_55 : decode cX10_put 55 = .ok (.aload 4, 2) := by decide +kernel
theorem dX10_put_57 : decode cX10_put 57 = .ok (.iload_n 3, 1) := by decide +kernel
theorem dX10_put_58 : decode cX10_put 58 = .ok (.invokevirtual 206, 3) := by decide +kernel
theorem dX10_put_61 : decode cX10_put 61 = .ok (.iastore, 1) := by decide +kernel
theorem dX10_put_62 : decode cX10_put 62 = .ok (.iconst 1, 1) := by decide +kernel
theorem dX10_put_63 : decode cX10_put 63 = .ok (.ireturn, 1) := by decide +kernel
theorem dX10_cell_0 : decode cX10_cell 0 = .ok (.aload_n 0, 1) := by decide +kernel
theorem dX10_cell_1 : decode cX10_cell 1 = .ok (.iconst 0, 1) := by decide +kernel
theorem dX10_cell_2 : decode cX10_cell 2 = .ok (.putfield 59, 3) := by decide +kernel
theorem dX10_cell_5 : decode cX10_cell 5 = .ok (.iload_n 1, 1) := by decide +kernel
theorem dX10_cell_6 : decode cX10_cell 6 = .ok (.invokestatic 63, 3) := by decide +kernel
theorem dX10_cell_9 : decode cX10_cell 9 = .ok (.ifCond .eq 10, 3) := by decide +kernel
theorem dX10_cell_12 : decode cX10_cell 12 = .ok (.iload_n 3, 1) := by decide +kernel
theorem dX10_cell_13 : decode cX10_cell 13 = .ok (.invokestatic 67, 3) := by decide +kernel
theorem dX10_cell_16 : decode cX10_cell 16 = .ok (.ifCond .ne 7, 3) := by decide +kernel
theorem dX10_cell_19 : decode cX10_cell 19 = .ok (.ldc2_w 192, 3) := by decide +kernel
theorem dX10_cell_22 : decode cX10_cell 22 = .ok (.lreturn, 1) := by decide +kernel
theorem dX10_cell_23 : decode cX10_cell 23 = .ok (.aload_n 0, 1) := by decide +kernel
theorem dX10_cell_24 : decode cX10_cell 24 = .ok (.getfield 13, 3) := by decide +kernel
theorem dX10_cell_27 : decode cX10_cell 27 = .ok (.iload_n 1, 1) := by decide +kernel
theorem dX10_cell_28 : decode cX10_cell 28 = .ok (.aaload, 1) := by decide +kernel
theorem dX10_cell_29 : decode cX10_cell 29 = .ok (.astore 4, 2) := by decide +kernel
theorem dX10_cell_31 : decode cX10_cell 31 = .ok (.aload 4, 2) := by decide +kernel
theorem dX10_cell_33 : decode cX10_cell 33 = .ok (.ifnonnull 9, 3) := by decide +kernel
theorem dX10_cell_36 : decode cX10_cell 36 = .ok (.aload_n 0, 1) := by decide +kernel
theorem dX10_cell_37 : decode cX10_cell 37 = .ok (.iconst 1, 1) := by decide +kernel
theorem dX10_cell_38 : decode cX10_cell 38 = .ok (.invokevirtual 209, 3) := by decide +kernel
theorem dX10_cell_41 : decode cX10_cell 41 = .ok (.lreturn, 1) := by decide +kernel
theorem dX10_cell_42 : decode cX10_cell 42 = .ok (.aload 4, 2) := by decide +kernel
theorem dX10_cell_44 : decode cX10_cell 44 = .ok (.getfield 74, 3) := by decide +kernel
theorem dX10_cell_47 : decode cX10_cell 47 = .ok (.iload_n 3, 1) := by decide +kernel
theorem dX10_cell_48 : decode cX10_cell 48 = .ok (.if_icmp .eq 9, 3) := by decide +kernel
theorem dX10_cell_51 : decode cX10_cell 51 = .ok (.aload_n 0, 1) := by decide +kernel
theorem dX10_cell_52 : decode cX10_cell 52 = .ok (.iconst 2, 1) := by decide +kernel
theorem dX10_cell_53 : decode cX10_cell 53 = .ok (.invokevirtual 209, 3) := by decide +kernel
theorem dX10_cell_56 : decode cX10_cell 56 = .ok (.lreturn, 1) := by decide +kernel
theorem dX10_cell_57 : decode cX10_cell 57 = .ok (.aload 4, 2) := by decide +kernel
theorem dX10_cell_59 : decode cX10_cell 59 = .ok (.iload_n 2, 1) := by decide +kernel
theorem dX10_cell_60 : decode cX10_cell 60 = .ok (.iconst 1, 1) := by decide +kernel
theorem dX10_cell_61 : decode cX10_cell 61 = .ok (.invokevirtual 77, 3) := by decide +kernel
theorem dX10_cell_64 : decode cX10_cell 64 = .ok (.ifCond .ne 9, 3) := by decide +kernel
theorem dX10_cell_67 : decode cX10_cell 67 = .ok (.aload_n 0, 1) := by decide +kernel
theorem dX10_cell_68 : decode cX10_cell 68 = .ok (.iconst 3, 1) := by decide +kernel
theorem dX10_cell_69 : decode cX10_cell 69 = .ok (.invokevirtual 209, 3) := by decide +kernel
theorem dX10_cell_72 : decode cX10_cell 72 = .ok (.lreturn, 1) := by decide +kernel
theorem dX10_cell_73 : decode cX10_cell 73 = .ok (.aload 4, 2) := by decide +kernel
theorem dX10_cell_75 : decode cX10_cell 75 = .ok (.getfield 203, 3) := by decide +kernel
theorem dX10_cell_78 : decode cX10_cell 78 = .ok (.iload_n 2, 1) := by decide +kernel
theorem dX10_cell_79 : decode cX10_cell 79 = .ok (.iaload, 1) := by decide +kernel
theorem dX10_cell_80 : decode cX10_cell 80 = .ok (.i2l, 1) := by decide +kernel
theorem dX10_cell_81 : decode cX10_cell 81 = .ok (.lreturn, 1) := by decide +kernel
theorem dX10_copy_0 : decode cX10_copy 0 = .ok (.aload_n 0, 1) := by decide +kernel
theorem dX10_copy_1 : decode cX10_copy 1 = .ok (.iconst 0, 1) := by decide +kernel
theorem dX10_copy_2 : decode cX10_copy 2 = .ok (.putfield 59, 3) := by decide +kernel
theorem dX10_copy_5 : decode cX10_copy 5 = .ok (.iload_n 1, 1) := by decide +kernel
theorem dX10_copy_6 : decode cX10_copy 6 = .ok (.invokestatic 63, 3) := by decide +kernel
theorem dX10_copy_9 : decode cX10_copy 9 = .ok (.ifCond .eq 10, 3) := by decide +kernel
theorem dX10_copy_12 : decode cX10_copy 12 = .ok (.iload_n 3, 1) := by decide +kernel
theorem dX10_copy_13 : decode cX10_copy 13 = .ok (.invokestatic 63, 3) := by decide +kernel
theorem dX10_copy_16 : decode cX10_copy 16 = .ok (.ifCond .ne 5, 3) := by decide +kernel
theorem dX10_copy_19 : decode cX10_copy 19 = .ok (.iconst (-1), 1) := by decide +kernel
theorem dX10_copy_20 : decode cX10_copy 20 = .ok (.ireturn, 1) := by decide +kernel
theorem dX10_copy_21 : decode cX10_copy 21 = .ok (.aload_n 0, 1) := by decide +kernel
theorem dX10_copy_22 : decode cX10_copy 22 = .ok (.getfield 13, 3) := by decide +kernel
theorem dX10_copy_25 : decode cX10_copy 25 = .ok (.iload_n 1, 1) := by decide +kernel
theorem dX10_copy_26 : decode cX10_copy 26 = .ok (.aaload, 1) := by decide +kernel
theorem dX10_copy_27 : decode cX10_copy 27 = .ok (.astore 6, 2) := by decide +kernel
theorem dX10_copy_29 : decode cX10_copy 29 = .ok (.aload_n 0, 1) := by decide +kernel
theorem dX10_copy_30 : decode cX10_copy 30 = .ok (.getfield 13, 3) := by decide +kernel
theorem dX10_copy_33 : decode cX10_copy 33 = .ok (.iload_n 3, 1) := by decide +kernel
theorem dX10_copy_34 : decode cX10_copy 34 = .ok (.aaload, 1) := by decide +kernel
theorem dX10_copy_35 : decode cX10_copy 35 = .ok (.astore 7, 2) := by decide +kernel
theorem dX10_copy_37 : decode cX10_copy 37 = .ok (.aload 6, 2) := by decide +kernel
theorem dX10_copy_39 : decode cX10_copy 39 = .ok (.ifnull 8, 3) := by decide +kernel
theorem dX10_copy_42 : decode cX10_copy 42 = .ok (.aload 7, 2) := by decide +kernel
theorem dX10_copy_44 : decode cX10_copy 44 = .ok (.ifnonnull 9, 3) := by decide +kernel
theorem dX10_copy_47 : decode cX10_copy 47 = .ok (.aload_n 0, 1) := by decide +kernel
theorem dX10_copy_48 : decode cX10_copy 48 = .ok (.iconst 1, 1) := by decide +kernel
theorem dX10_copy_49 : decode cX10_copy 49 = .ok (.invokevirtual 70, 3) := by decide +kernel
theorem dX10_copy_52 : decode cX10_copy 52 = .ok (.ireturn, 1) := by decide +kernel
theorem dX10_copy_53 : decode cX10_copy 53 = .ok (.aload 6, 2) := by decide +kernel
theorem dX10_copy_55 : decode cX10_copy 55 = .ok (.getfield 74, 3) := by decide +kernel
theorem dX10_copy_58 : decode cX10_copy 58 = .ok (.aload 7, 2) := by decide +kernel
theorem dX10_copy_60 : decode cX10_copy 60 = .ok (.getfield 74, 3) := by decide +kernel
theorem dX10_copy_63 : decode cX10_copy 63 = .ok (.if_icmp .eq 9, 3) := by decide +kernel
theorem dX10_copy_66 : decode cX10_copy 66 = .ok (.aload_n 0, 1) := by decide +kernel
theorem dX10_copy_67 : decode cX10_copy 67 = .ok (.iconst 2, 1) := by decide +kernel
theorem dX10_copy_68 : decode cX10_copy 68 = .ok (.invokevirtual 70, 3) := by decide +kernel
theorem dX10_copy_71 : decode cX10_copy 71 = .ok (.ireturn, 1) := by decide +kernel
theorem dX10_copy_72 : decode cX10_copy 72 = .ok (.aload 6, 2) := by decide +kernel
theorem dX10_copy_74 : decode cX10_copy 74 = .ok (.iload_n 2, 1) := by decide +kernel
theorem dX10_copy_75 : decode cX10_copy 75 = .ok (.iload 5, 2) := by decide +kernel
theorem dX10_copy_77 : decode cX10_copy 77 = .ok (.invokevirtual 77, 3) := by decide +kernel
theorem dX10_copy_80 : decode cX10_copy 80 = .ok (.ifCond .eq 15, 3) := by decide +kernel
theorem dX10_copy_83 : decode cX10_copy 83 = .ok (.aload 7, 2) := by decide +kernel
theorem dX10_copy_85 : decode cX10_copy 85 = .ok (.iload 4, 2) := by decide +kernel
theorem dX10_copy_87 : decode cX10_copy 87 = .ok (.iload 5, 2) := by decide +kernel
theorem dX10_copy_89 : decode cX10_copy 89 = .ok (.invokevirtual 77, 3) := by decide +kernel
theorem dX10_copy_92 : decode cX10_copy 92 = .ok (.ifCond .ne 9, 3) := by decide +kernel
theorem dX10_copy_95 : decode cX10_copy 95 = .ok (.aload_n 0, 1) := by decide +kernel
theorem dX10_copy_96 : decode cX10_copy 96 = .ok (.iconst 3, 1) := by decide +kernel
theorem dX10_copy_97 : decode cX10_copy 97 = .ok (.invokevirtual 70, 3) := by decide +kernel
theorem dX10_copy_100 : decode cX10_copy 100 = .ok (.ireturn, 1) := by decide +kernel
theorem dX10_copy_101 : decode cX10_copy 101 = .ok (.aload 6, 2) := by decide +kernel
theorem dX10_copy_103 : decode cX10_copy 103 = .ok (.getfield 203, 3) := by decide +kernel
theorem dX10_copy_106 : decode cX10_copy 106 = .ok (.iload_n 2, 1) := by decide +kernel
theorem dX10_copy_107 : decode cX10_copy 107 = .ok (.aload 7, 2) := by decide +kernel
theorem dX10_copy_109 : decode cX10_copy 109 = .ok (.getfield 203, 3) := by decide +kernel
theorem dX10_copy_112 : decode cX10_copy 112 = .ok (.iload 4, 2) := by decide +kernel
theorem dX10_copy_114 : decode cX10_copy 114 = .ok (.iload 5, 2) := by decide +kernel
theorem dX10_copy_116 : decode cX10_copy 116 = .ok (.invokestatic 213, 3) := by decide +kernel
theorem dX10_copy_119 : decode cX10_copy 119 = .ok (.iload 5, 2) := by decide +kernel
theorem dX10_copy_121 : decode cX10_copy 121 = .ok (.ireturn, 1) := by decide +kernel
theorem dX10_tell_0 : decode cX10_tell 0 = .ok (.aload_n 0, 1) := by decide +kernel
theorem dX10_tell_1 : decode cX10_tell 1 = .ok (.getfield 55, 3) := by decide +kernel
theorem dX10_tell_4 : decode cX10_tell 4 = .ok (.iload_n 1, 1) := by decide +kernel
theorem dX10_tell_5 : decode cX10_tell 5 = .ok (.invokevirtual 95, 3) := by decide +kernel
theorem dX10_tell_8 : decode cX10_tell 8 = .ok (.astore_n 2, 1) := by decide +kernel
theorem dX10_tell_9 : decode cX10_tell 9 = .ok (.aload_n 2, 1) := by decide +kernel
theorem dX10_tell_10 : decode cX10_tell 10 = .ok (.ifnonnull 7, 3) := by decide +kernel
theorem dX10_tell_13 : decode cX10_tell 13 = .ok (.iconst (-1), 1) := by decide +kernel
theorem dX10_tell_14 : decode cX10_tell 14 = .ok (.goto 11, 3) := by decide +kernel
theorem dX10_tell_17 : decode cX10_tell 17 = .ok (.aload_n 2, 1) := by decide +kernel
theorem dX10_tell_18 : decode cX10_tell 18 = .ok (.aload_n 0, 1) := by decide +kernel
theorem dX10_tell_19 : decode cX10_tell 19 = .ok (.getfield 48, 3) := by decide +kernel
theorem dX10_tell_22 : decode cX10_tell 22 = .ok (.invokevirtual 219, 3) := by decide +kernel
theorem dX10_tell_25 : decode cX10_tell 25 = .ok (.ireturn, 1) := by decide +kernel
theorem dX10_ring_0 : decode cX10_ring 0 = .ok (.aload_n 0, 1) := by decide +kernel
theorem dX10_ring_1 : decode cX10_ring 1 = .ok (.getfield 55, 3) := by decide +kernel
theorem dX10_ring_4 : decode cX10_ring 4 = .ok (.iload_n 1, 1) := by decide +kernel
theorem dX10_ring_5 : decode cX10_ring 5 = .ok (.invokevirtual 95, 3) := by decide +kernel
theorem dX10_ring_8 : decode cX10_ring 8 = .ok (.astore_n 2, 1) := by decide +kernel
theorem dX10_ring_9 : decode cX10_ring 9 = .ok (.aload_n 2, 1) := by decide +kernel
theorem dX10_ring_10 : decode cX10_ring 10 = .ok (.ifnonnull 7, 3) := by decide +kernel
theorem dX10_ring_13 : decode cX10_ring 13 = .ok (.iconst (-1), 1) := by decide +kernel
theorem dX10_ring_14 : decode cX10_ring 14 = .ok (.goto 11, 3) := by decide +kernel
theorem dX10_ring_17 : decode cX10_ring 17 = .ok (.aload_n 2, 1) := by decide +kernel
theorem dX10_ring_18 : decode cX10_ring 18 = .ok (.aload_n 0, 1) := by decide +kernel
theorem dX10_ring_19 : decode cX10_ring 19 = .ok (.getfield 48, 3) := by decide +kernel
theorem dX10_ring_22 : decode cX10_ring 22 = .ok (.invokevirtual 223, 3) := by decide +kernel
theorem dX10_ring_25 : decode cX10_ring 25 = .ok (.ireturn, 1) := by decide +kernel
theorem dX10_as_0 : decode cX10_as 0 = .ok (.aload_n 0, 1) := by decide +kernel
theorem dX10_as_1 : decode cX10_as 1 = .ok (.iconst 0, 1) := by decide +kernel
theorem dX10_as_2 : decode cX10_as 2 = .ok (.putfield 59, 3) := by decide +kernel
theorem dX10_as_5 : decode cX10_as 5 = .ok (.aload_n 0, 1) := by decide +kernel
theorem dX10_as_6 : decode cX10_as 6 = .ok (.getfield 55, 3) := by decide +kernel
theorem dX10_as_9 : decode cX10_as 9 = .ok (.iload_n 1, 1) := by decide +kernel
theorem dX10_as_10 : decode cX10_as 10 = .ok (.invokevirtual 95, 3) := by decide +kernel
theorem dX10_as_13 : decode cX10_as 13 = .ok (.astore_n 3, 1) := by decide +kernel
theorem dX10_as_14 : decode cX10_as 14 = .ok (.aload_n 3, 1) := by decide +kernel
theorem dX10_as_15 : decode cX10_as 15 = .ok (.ifnonnull 5, 3) := by decide +kernel
theorem dX10_as_18 : decode cX10_as 18 = .ok (.iconst (-1), 1) := by decide +kernel
theorem dX10_as_19 : decode cX10_as 19 = .ok (.ireturn, 1) := by decide +kernel
theorem dX10_as_20 : decode cX10_as 20 = .ok (.iload_n 2, 1) := by decide +kernel
theorem dX10_as_21 : decode cX10_as 21 = .ok (.ifCond .lt 8, 3) := by decide +kernel
theorem dX10_as_24 : decode cX10_as 24 = .ok (.iload_n 2, 1) := by decide +kernel
theorem dX10_as_25 : decode cX10_as 25 = .ok (.iconst 2, 1) := by decide +kernel
theorem dX10_as_26 : decode cX10_as 26 = .ok (.if_icmp .le 6, 3) := by decide +kernel
theorem dX10_as_29 : decode cX10_as 29 = .ok (.bipush (-2), 2) := by decide +kernel
theorem dX10_as_31 : decode cX10_as 31 = .ok (.ireturn, 1) := by decide +kernel
theorem dX10_as_32 : decode cX10_as 32 = .ok (.iload_n 2, 1) := by decide +kernel
theorem dX10_as_33 : decode cX10_as 33 = .ok (.iconst 1, 1) := by decide +kernel
theorem dX10_as_34 : decode cX10_as 34 = .ok (.if_icmp .ne 16, 3) := by decide +kernel
theorem dX10_as_37 : decode cX10_as 37 = .ok (.aload_n 3, 1) := by decide +kernel
theorem dX10_as_38 : decode cX10_as 38 = .ok (.instanceof 226, 3) := by decide +kernel
theorem dX10_as_41 : decode cX10_as 41 = .ok (.ifCond .ne 9, 3) := by decide +kernel
theorem dX10_as_44 : decode cX10_as 44 = .ok (.aload_n 0, 1) := by decide +kernel
theorem dX10_as_45 : decode cX10_as 45 = .ok (.iconst 2, 1) := by decide +kernel
theorem dX10_as_46 : decode cX10_as 46 = .ok (.invokevirtual 70, 3) := by decide +kernel
theorem dX10_as_49 : decode cX10_as 49 = .ok (.ireturn, 1) := by decide +kernel
theorem dX10_as_50 : decode cX10_as 50 = .ok (.iload_n 2, 1) := by decide +kernel
theorem dX10_as_51 : decode cX10_as 51 = .ok (.iconst 2, 1) := by decide +kernel
theorem dX10_as_52 : decode cX10_as 52 = .ok (.if_icmp .ne 16, 3) := by decide +kernel
theorem dX10_as_55 : decode cX10_as 55 = .ok (.aload_n 3, 1) := by decide +kernel
theorem dX10_as_56 : decode cX10_as 56 = .ok (.instanceof 228, 3) := by decide +kernel
theorem dX10_as_59 : decode cX10_as 59 = .ok (.ifCond .ne 9, 3) := by decide +kernel
theorem dX10_as_62 : decode cX10_as 62 = .ok (.aload_n 0, 1) := by decide +kernel
theorem dX10_as_63 : decode cX10_as 63 = .ok (.iconst 2, 1) := by decide +kernel
theorem dX10_as_64 : decode cX10_as 64 = .ok (.invokevirtual 70, 3) := by decide +kernel
theorem dX10_as_67 : decode cX10_as 67 = .ok (.ireturn, 1) := by decide +kernel
theorem dX10_as_68 : decode cX10_as 68 = .ok (.iconst 1, 1) := by decide +kernel
theorem dX10_as_69 : decode cX10_as 69 = .ok (.ireturn, 1) := by decide +kernel
theorem dX10_trace_0 : decode cX10_trace 0 = .ok (.aload_n 0, 1) := by decide +kernel
theorem dX10_trace_1 : decode cX10_trace 1 = .ok (.getfield 48, 3) := by decide +kernel
theorem dX10_trace_4 : decode cX10_trace 4 = .ok (.getfield 230, 3) := by decide +kernel
theorem dX10_trace_7 : decode cX10_trace 7 = .ok (.ireturn, 1) := by decide +kernel
theorem dX10_fault_0 : decode cX10_fault 0 = .ok (.aload_n 0, 1) := by decide +kernel
theorem dX10_fault_1 : decode cX10_fault 1 = .ok (.getfield 59, 3) := by decide +kernel
theorem dX10_fault_4 : decode cX10_fault 4 = .ok (.ireturn, 1) := by decide +kernel
theorem dX10_many_0 : decode cX10_many 0 = .ok (.iload_n 1, 1) := by decide +kernel
theorem dX10_many_1 : decode cX10_many 1 = .ok (.tableswitch 63 0 3 #[31, 39, 47, 55], 31) := by decide +kernel
theorem dX10_many_32 : decode cX10_many 32 = .ok (.aload_n 0, 1) := by decide +kernel
theorem dX10_many_33 : decode cX10_many 33 = .ok (.getfield 55, 3) := by decide +kernel
theorem dX10_many_36 : decode cX10_many 36 = .ok (.getfield 92, 3) := by decide +kernel
theorem dX10_many_39 : decode cX10_many 39 = .ok (.ireturn, 1) := by decide +kernel
theorem dX10_many_40 : decode cX10_many 40 = .ok (.aload_n 0, 1) := by decide +kernel
theorem dX10_many_41 : decode cX10_many 41 = .ok (.getfield 55, 3) := by decide +kernel
theorem dX10_many_44 : decode cX10_many 44 = .ok (.getfield 233, 3) := by decide +kernel
theorem dX10_many_47 : decode cX10_many 47 = .ok (.ireturn, 1) := by decide +kernel
theorem dX10_many_48 : decode cX10_many 48 = .ok (.aload_n 0, 1) := by decide +kernel
theorem dX10_many_49 : decode cX10_many 49 = .ok (.getfield 55, 3) := by decide +kernel
theorem dX10_many_52 : decode cX10_many 52 = .ok (.getfield 197, 3) := by decide +kernel
theorem dX10_many_55 : decode cX10_many 55 = .ok (.ireturn, 1) := by decide +kernel
theorem dX10_many_56 : decode cX10_many 56 = .ok (.aload_n 0, 1) := by decide +kernel
theorem dX10_many_57 : decode cX10_many 57 = .ok (.getfield 27, 3) := by decide +kernel
theorem dX10_many_60 : decode cX10_many 60 = .ok (.getfield 89, 3) := by decide +kernel
theorem dX10_many_63 : decode cX10_many 63 = .ok (.ireturn, 1) := by decide +kernel
theorem dX10_many_64 : decode cX10_many 64 = .ok (.bipush (-2), 2) := by decide +kernel
theorem dX10_many_66 : decode cX10_many 66 = .ok (.ireturn, 1) := by decide +kernel
theorem dX10_faulted_0 : decode cX10_faulted 0 = .ok (.aload_n 0, 1) := by decide +kernel
theorem dX10_faulted_1 : decode cX10_faulted 1 = .ok (.iload_n 1, 1) := by decide +kernel
theorem dX10_faulted_2 : decode cX10_faulted 2 = .ok (.putfield 59, 3) := by decide +kernel
theorem dX10_faulted_5 : decode cX10_faulted 5 = .ok (.bipush (-10), 2) := by decide +kernel
theorem dX10_faulted_7 : decode cX10_faulted 7 = .ok (.iload_n 1, 1) := by decide +kernel
theorem dX10_faulted_8 : decode cX10_faulted 8 = .ok (.isub, 1) := by decide +kernel
theorem dX10_faulted_9 : decode cX10_faulted 9 = .ok (.ireturn, 1) := by decide +kernel
theorem dX10_lost_0 : decode cX10_lost 0 = .ok (.aload_n 0, 1) := by decide +kernel
theorem dX10_lost_1 : decode cX10_lost 1 = .ok (.iload_n 1, 1) := by decide +kernel
theorem dX10_lost_2 : decode cX10_lost 2 = .ok (.putfield 59, 3) := by decide +kernel
theorem dX10_lost_5 : decode cX10_lost 5 = .ok (.ldc2_w 192, 3) := by decide +kernel
theorem dX10_lost_8 : decode cX10_lost 8 = .ok (.lreturn, 1) := by decide +kernel
theorem dX10_isSheet_0 : decode cX10_isSheet 0 = .ok (.iload_n 0, 1) := by decide +kernel
theorem dX10_isSheet_1 : decode cX10_isSheet 1 = .ok (.ifCond .lt 12, 3) := by decide +kernel
theorem dX10_isSheet_4 : decode cX10_isSheet 4 = .ok (.iload_n 0, 1) := by decide +kernel
theorem dX10_isSheet_5 : decode cX10_isSheet 5 = .ok (.iconst 4, 1) := by decide +kernel
theorem dX10_isSheet_6 : decode cX10_isSheet 6 = .ok (.if_icmp .ge 7, 3) := by decide +kernel
theorem dX10_isSheet_9 : decode cX10_isSheet 9 = .ok (.iconst 1, 1) := by decide +kernel
theorem dX10_isSheet_10 : decode cX10_isSheet 10 = .ok (.goto 4, 3) := by decide +kernel
theorem dX10_isSheet_13 : decode cX10_isSheet 13 = .ok (.iconst 0, 1) := by decide +kernel
theorem dX10_isSheet_14 : decode cX10_isSheet 14 = .ok (.ireturn, 1) := by decide +kernel
theorem dX10_isLane_0 : decode cX10_isLane 0 = .ok (.iload_n 0, 1) := by decide +kernel
theorem dX10_isLane_1 : decode cX10_isLane 1 = .ok (.ifCond .lt 12, 3) := by decide +kernel
theorem dX10_isLane_4 : decode cX10_isLane 4 = .ok (.iload_n 0, 1) := by decide +kernel
theorem dX10_isLane_5 : decode cX10_isLane 5 = .ok (.iconst 2, 1) := by decide +kernel
theorem dX10_isLane_6 : decode cX10_isLane 6 = .ok (.if_icmp .gt 7, 3) := by decide +kernel
theorem dX10_isLane_9 : decode cX10_isLane 9 = .ok (.iconst 1, 1) := by decide +kernel
theorem dX10_isLane_10 : decode cX10_isLane 10 = .ok (.goto 4, 3) := by decide +kernel
theorem dX10_isLane_13 : decode cX10_isLane 13 = .ok (.iconst 0, 1) := by decide +kernel
theorem dX10_isLane_14 : decode cX10_isLane 14 = .ok (.ireturn, 1) := by decide +kernel
theorem dX10_isMinute_0 : decode cX10_isMinute 0 = .ok (.iload_n 0, 1) := by decide +kernel
theorem dX10_isMinute_1 : decode cX10_isMinute 1 = .ok (.ifCond .lt 13, 3) := by decide +kernel
theorem dX10_isMinute_4 : decode cX10_isMinute 4 = .ok (.iload_n 0, 1) := by decide +kernel
theorem dX10_isMinute_5 : decode cX10_isMinute 5 = .ok (.bipush 60, 2) := by decide +kernel
theorem dX10_isMinute_7 : decode cX10_isMinute 7 = .ok (.if_icmp .ge 7, 3) := by decide +kernel
theorem dX10_isMinute_10 : decode cX10_isMinute 10 = .ok (.iconst 1, 1) := by decide +kernel
theorem dX10_isMinute_11 : decode cX10_isMinute 11 = .ok (.goto 4, 3) := by decide +kernel
theorem dX10_isMinute_14 : decode cX10_isMinute 14 = .ok (.iconst 0, 1) := by decide +kernel
theorem dX10_isMinute_15 : decode cX10_isMinute 15 = .ok (.ireturn, 1) := by decide +kernel
theorem dX10_newTaker_0 : decode cX10_newTaker 0 = .ok (.iload_n 0, 1) := by decide +kernel
theorem dX10_newTaker_1 : decode cX10_newTaker 1 = .ok (.lookupswitch 49 #[(1, 27), (2, 38)], 27) := by decide +kernel
theorem dX10_newTaker_28 : decode cX10_newTaker 28 = .ok (.new 226, 3) := by decide +kernel
theorem dX10_newTaker_31 : decode cX10_newTaker 31 = .ok (.dup, 1) := by decide +kernel
theorem dX10_newTaker_32 : decode cX10_newTaker 32 = .ok (.iload_n 1, 1) := by decide +kernel
theorem dX10_newTaker_33 : decode cX10_newTaker 33 = .ok (.iload_n 2, 1) := by decide +kernel
theorem dX10_newTaker_34 : decode cX10_newTaker 34 = .ok (.iload_n 3, 1) := by decide +kernel
theorem dX10_newTaker_35 : decode cX10_newTaker 35 = .ok (.invokespecial 236, 3) := by decide +kernel
theorem dX10_newTaker_38 : decode cX10_newTaker 38 = .ok (.areturn, 1) := by decide +kernel
theorem dX10_newTaker_39 : decode cX10_newTaker 39 = .ok (.new 228, 3) := by decide +kernel
theorem dX10_newTaker_42 : decode cX10_newTaker 42 = .ok (.dup, 1) := by decide +kernel
theorem dX10_newTaker_43 : decode cX10_newTaker 43 = .ok (.iload_n 1, 1) := by decide +kernel
theorem dX10_newTaker_44 : decode cX10_newTaker 44 = .ok (.iload_n 2, 1) := by decide +kernel
theorem dX10_newTaker_45 : decode cX10_newTaker 45 = .ok (.iload_n 3, 1) := by decide +kernel
theorem dX10_newTaker_46 : decode cX10_newTaker 46 = .ok (.invokespecial 239, 3) := by decide +kernel
theorem dX10_newTaker_49 : decode cX10_newTaker 49 = .ok (.areturn, 1) := by decide +kernel
theorem dX10_newTaker_50 : decode cX10_newTaker 50 = .ok (.new 100, 3) := by decide +kernel
theorem dX10_newTaker_53 : decode cX10_newTaker 53 = .ok (.dup, 1) := by decide +kernel
theorem dX10_newTaker_54 : decode cX10_newTaker 54 = .ok (.iload_n 1, 1) := by decide +kernel
theorem dX10_newTaker_55 : decode cX10_newTaker 55 = .ok (.iload_n 2, 1) := by decide +kernel
theorem dX10_newTaker_56 : decode cX10_newTaker 56 = .ok (.iload_n 3, 1) := by decide +kernel
theorem dX10_newTaker_57 : decode cX10_newTaker 57 = .ok (.invokespecial 240, 3) := by decide +kernel
theorem dX10_newTaker_60 : decode cX10_newTaker 60 = .ok (.areturn, 1) := by decide +kernel
