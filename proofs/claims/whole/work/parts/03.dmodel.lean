theorem dX11_init_0 : decode cX11_init 0 = .ok (.aload_n 0, 1) := by decide +kernel
theorem dX11_init_1 : decode cX11_init 1 = .ok (.invokespecial 1, 3) := by decide +kernel
theorem dX11_init_4 : decode cX11_init 4 = .ok (.aload_n 0, 1) := by decide +kernel
theorem dX11_init_5 : decode cX11_init 5 = .ok (.iconst 4, 1) := by decide +kernel
theorem dX11_init_6 : decode cX11_init 6 = .ok (.newarray .int, 2) := by decide +kernel
theorem dX11_init_8 : decode cX11_init 8 = .ok (.dup, 1) := by decide +kernel
theorem dX11_init_9 : decode cX11_init 9 = .ok (.iconst 0, 1) := by decide +kernel
theorem dX11_init_10 : decode cX11_init 10 = .ok (.bipush (-9), 2) := by decide +kernel
theorem dX11_init_12 : decode cX11_init 12 = .ok (.iastore, 1) := by decide +kernel
theorem dX11_init_13 : decode cX11_init 13 = .ok (.dup, 1) := by decide +kernel
theorem dX11_init_14 : decode cX11_init 14 = .ok (.iconst 1, 1) := by decide +kernel
theorem dX11_init_15 : decode cX11_init 15 = .ok (.bipush (-9), 2) := by decide +kernel
theorem dX11_init_17 : decode cX11_init 17 = .ok (.iastore, 1) := by decide +kernel
theorem dX11_init_18 : decode cX11_init 18 = .ok (.dup, 1) := by decide +kernel
theorem dX11_init_19 : decode cX11_init 19 = .ok (.iconst 2, 1) := by decide +kernel
theorem dX11_init_20 : decode cX11_init 20 = .ok (.bipush (-9), 2) := by decide +kernel
theorem dX11_init_22 : decode cX11_init 22 = .ok (.iastore, 1) := by decide +kernel
theorem dX11_init_23 : decode cX11_init 23 = .ok (.dup, 1) := by decide +kernel
theorem dX11_init_24 : decode cX11_init 24 = .ok (.iconst 3, 1) := by decide +kernel
theorem dX11_init_25 : decode cX11_init 25 = .ok (.bipush (-9), 2) := by decide +kernel
theorem dX11_init_27 : decode cX11_init 27 = .ok (.iastore, 1) := by decide +kernel
theorem dX11_init_28 : decode cX11_init 28 = .ok (.putfield 9, 3) := by decide +kernel
theorem dX11_init_31 : decode cX11_init 31 = .ok (.aload_n 0, 1) := by decide +kernel
theorem dX11_init_32 : decode cX11_init 32 = .ok (.iconst 4, 1) := by decide +kernel
theorem dX11_init_33 : decode cX11_init 33 = .ok (.newarray .int, 2) := by decide +kernel
theorem dX11_init_35 : decode cX11_init 35 = .ok (.putfield 13, 3) := by decide +kernel
theorem dX11_init_38 : decode cX11_init 38 = .ok (.aload_n 0, 1) := by decide +kernel
theorem dX11_init_39 : decode cX11_init 39 = .ok (.sipush 240, 3) := by decide +kernel
theorem dX11_init_42 : decode cX11_init 42 = .ok (.newarray .int, 2) := by decide +kernel
theorem dX11_init_44 : decode cX11_init 44 = .ok (.putfield 16, 3) := by decide +kernel
theorem dX11_init_47 : decode cX11_init 47 = .ok (.aload_n 0, 1) := by decide +kernel
theorem dX11_init_48 : decode cX11_init 48 = .ok (.bipush 6, 2) := by decide +kernel
theorem dX11_init_50 : decode cX11_init 50 = .ok (.newarray .int, 2) := by decide +kernel
theorem dX11_init_52 : decode cX11_init 52 = .ok (.putfield 19, 3) := by decide +kernel
theorem dX11_init_55 : decode cX11_init 55 = .ok (.aload_n 0, 1) := by decide +kernel
theorem dX11_init_56 : decode cX11_init 56 = .ok (.iconst 5, 1) := by decide +kernel
theorem dX11_init_57 : decode cX11_init 57 = .ok (.newarray .int, 2) := by decide +kernel
theorem dX11_init_59 : decode cX11_init 59 = .ok (.putfield 22, 3) := by decide +kernel
theorem dX11_init_62 : decode cX11_init 62 = .ok (.aload_n 0, 1) := by decide +kernel
theorem dX11_init_63 : decode cX11_init 63 = .ok (.iconst 5, 1) := by decide +kernel
theorem dX11_init_64 : decode cX11_init 64 = .ok (.newarray .int, 2) := by decide +kernel
theorem dX11_init_66 : decode cX11_init 66 = .ok (.putfield 25, 3) := by decide +kernel
theorem dX11_init_69 : decode cX11_init 69 = .ok (.aload_n 0, 1) := by decide +kernel
theorem dX11_init_70 : decode cX11_init 70 = .ok (.iconst 5, 1) := by decide +kernel
theorem dX11_init_71 : decode cX11_init 71 = .ok (.newarray .int, 2) := by decide +kernel
theorem dX11_init_73 : decode cX11_init 73 = .ok (.putfield 28, 3) := by decide +kernel
theorem dX11_init_76 : decode cX11_init 76 = .ok (.aload_n 0, 1) := by decide +kernel
theorem dX11_init_77 : decode cX11_init 77 = .ok (.iconst 5, 1) := by decide +kernel
theorem dX11_init_78 : decode cX11_init 78 = .ok (.newarray .int, 2) := by decide +kernel
theorem dX11_init_80 : decode cX11_init 80 = .ok (.putfield 31, 3) := by decide +kernel
theorem dX11_init_83 : decode cX11_init 83 = .ok (.aload_n 0, 1) := by decide +kernel
theorem dX11_init_84 : decode cX11_init 84 = .ok (.bipush 6, 2) := by decide +kernel
theorem dX11_init_86 : decode cX11_init 86 = .ok (.newarray .int, 2) := by decide +kernel
theorem dX11_init_88 : decode cX11_init 88 = .ok (.putfield 34, 3) := by decide +kernel
theorem dX11_init_91 : decode cX11_init 91 = .ok (.aload_n 0, 1) := by decide +kernel
theorem dX11_init_92 : decode cX11_init 92 = .ok (.iconst 5, 1) := by decide +kernel
theorem dX11_init_93 : decode cX11_init 93 = .ok (.newarray .int, 2) := by decide +kernel
theorem dX11_init_95 : decode cX11_init 95 = .ok (.putfield 37, 3) := by decide +kernel
theorem dX11_init_98 : decode cX11_init 98 = .ok (.aload_n 0, 1) := by decide +kernel
theorem dX11_init_99 : decode cX11_init 99 = .ok (.iconst 5, 1) := by decide +kernel
theorem dX11_init_100 : decode cX11_init 100 = .ok (.newarray .int, 2) := by decide +kernel
theorem dX11_init_102 : decode cX11_init 102 = .ok (.putfield 40, 3) := by decide +kernel
theorem dX11_init_105 : decode cX11_init 105 = .ok (.aload_n 0, 1) := by decide +kernel
theorem dX11_init_106 : decode cX11_init 106 = .ok (.iconst 5, 1) := by decide +kernel
theorem dX11_init_107 : decode cX11_init 107 = .ok (.newarray .int, 2) := by decide +kernel
theorem dX11_init_109 : decode cX11_init 109 = .ok (.putfield 43, 3) := by decide +kernel
theorem dX11_init_112 : decode cX11_init 112 = .ok (.aload_n 0, 1) := by decide +kernel
theorem dX11_init_113 : decode cX11_init 113 = .ok (.iconst 5, 1) := by decide +kernel
theorem dX11_init_114 : decode cX11_init 114 = .ok (.newarray .int, 2) := by decide +kernel
theorem dX11_init_116 : decode cX11_init 116 = .ok (.putfield 46, 3) := by decide +kernel
theorem dX11_init_119 : decode cX11_init 119 = .ok (.aload_n 0, 1) := by decide +kernel
theorem dX11_init_120 : decode cX11_init 120 = .ok (.iconst 5, 1) := by decide +kernel
theorem dX11_init_121 : decode cX11_init 121 = .ok (.newarray .int, 2) := by decide +kernel
theorem dX11_init_123 : decode cX11_init 123 = .ok (.putfield 49, 3) := by decide +kernel
theorem dX11_init_126 : decode cX11_init 126 = .ok (.aload_n 0, 1) := by decide +kernel
theorem dX11_init_127 : decode cX11_init 127 = .ok (.iconst 5, 1) := by decide +kernel
theorem dX11_init_128 : decode cX11_init 128 = .ok (.newarray .int, 2) := by decide +kernel
theorem dX11_init_130 : decode cX11_init 130 = .ok (.putfield 52, 3) := by decide +kernel
theorem dX11_init_133 : decode cX11_init 133 = .ok (.aload_n 0, 1) := by decide +kernel
theorem dX11_init_134 : decode cX11_init 134 = .ok (.bipush 100, 2) := by decide +kernel
theorem dX11_init_136 : decode cX11_init 136 = .ok (.newarray .int, 2) := by decide +kernel
theorem dX11_init_138 : decode cX11_init 138 = .ok (.putfield 55, 3) := by decide +kernel
theorem dX11_init_141 : decode cX11_init 141 = .ok (.aload_n 0, 1) := by decide +kernel
theorem dX11_init_142 : decode cX11_init 142 = .ok (.iconst 5, 1) := by decide +kernel
theorem dX11_init_143 : decode cX11_init 143 = .ok (.newarray .int, 2) := by decide +kernel
theorem dX11_init_145 : decode cX11_init 145 = .ok (.putfield 58, 3) := by decide +kernel
theorem dX11_init_148 : decode cX11_init 148 = .ok (.aload_n 0, 1) := by decide +kernel
theorem dX11_init_149 : decode cX11_init 149 = .ok (.iconst 5, 1) := by decide +kernel
theorem dX11_init_150 : decode cX11_init 150 = .ok (.newarray .int, 2) := by decide +kernel
theorem dX11_init_152 : decode cX11_init 152 = .ok (.putfield 61, 3) := by decide +kernel
theorem dX11_init_155 : decode cX11_init 155 = .ok (.aload_n 0, 1) := by decide +kernel
theorem dX11_init_156 : decode cX11_init 156 = .ok (.iconst 5, 1) := by decide +kernel
theorem dX11_init_157 : decode cX11_init 157 = .ok (.newarray .int, 2) := by decide +kernel
theorem dX11_init_159 : decode cX11_init 159 = .ok (.putfield 64, 3) := by decide +kernel
theorem dX11_init_162 : decode cX11_init 162 = .ok (.aload_n 0, 1) := by decide +kernel
theorem dX11_init_163 : decode cX11_init 163 = .ok (.bipush 8, 2) := by decide +kernel
theorem dX11_init_165 : decode cX11_init 165 = .ok (.newarray .int, 2) := by decide +kernel
theorem dX11_init_167 : decode cX11_init 167 = .ok (.putfield 67, 3) := by decide +kernel
theorem dX11_init_170 : decode cX11_init 170 = .ok (.aload_n 0, 1) := by decide +kernel
theorem dX11_init_171 : decode cX11_init 171 = .ok (.bipush 8, 2) := by decide +kernel
theorem dX11_init_173 : decode cX11_init 173 = .ok (.newarray .int, 2) := by decide +kernel
theorem dX11_init_175 : decode cX11_init 175 = .ok (.putfield 70, 3) := by decide +kernel
theorem dX11_init_178 : decode cX11_init 178 = .ok (.aload_n 0, 1) := by decide +kernel
theorem dX11_init_179 : decode cX11_init 179 = .ok (.bipush 8, 2) := by decide +kernel
theorem dX11_init_181 : decode cX11_init 181 = .ok (.newarray .int, 2) := by decide +kernel
theorem dX11_init_183 : decode cX11_init 183 = .ok (.putfield 73, 3) := by decide +kernel
theorem dX11_init_186 : decode cX11_init 186 = .ok (.return_, 1) := by decide +kernel
theorem dX11_fails_0 : decode cX11_fails 0 = .ok (.aload_n 0, 1) := by decide +kernel
theorem dX11_fails_1 : decode cX11_fails 1 = .ok (.iload_n 1, 1) := by decide +kernel
theorem dX11_fails_2 : decode cX11_fails 2 = .ok (.putfield 76, 3) := by decide +kernel
theorem dX11_fails_5 : decode cX11_fails 5 = .ok (.bipush (-10), 2) := by decide +kernel
theorem dX11_fails_7 : decode cX11_fails 7 = .ok (.iload_n 1, 1) := by decide +kernel
theorem dX11_fails_8 : decode cX11_fails 8 = .ok (.isub, 1) := by decide +kernel
theorem dX11_fails_9 : decode cX11_fails 9 = .ok (.ireturn, 1) := by decide +kernel
theorem dX11_lost_0 : decode cX11_lost 0 = .ok (.aload_n 0, 1) := by decide +kernel
theorem dX11_lost_1 : decode cX11_lost 1 = .ok (.iload_n 1, 1) := by decide +kernel
theorem dX11_lost_2 : decode cX11_lost 2 = .ok (.putfield 76, 3) := by decide +kernel
theorem dX11_lost_5 : decode cX11_lost 5 = .ok (.ldc2_w 80, 3) := by decide +kernel
theorem dX11_lost_8 : decode cX11_lost 8 = .ok (.lreturn, 1) := by decide +kernel
theorem dX11_within_0 : decode cX11_within 0 = .ok (.iload_n 0, 1) := by decide +kernel
theorem dX11_within_1 : decode cX11_within 1 = .ok (.iload_n 1, 1) := by decide +kernel
theorem dX11_within_2 : decode cX11_within 2 = .ok (.if_icmp .lt 12, 3) := by decide +kernel
theorem dX11_within_5 : decode cX11_within 5 = .ok (.iload_n 0, 1) := by decide +kernel
theorem dX11_within_6 : decode cX11_within 6 = .ok (.iload_n 2, 1) := by decide +kernel
theorem dX11_within_7 : decode cX11_within 7 = .ok (.if_icmp .gt 7, 3) := by decide +kernel
theorem dX11_within_10 : decode cX11_within 10 = .ok (.iconst 1, 1) := by decide +kernel
theorem dX11_within_11 : decode cX11_within 11 = .ok (.goto 4, 3) := by decide +kernel
theorem dX11_within_14 : decode cX11_within 14 = .ok (.iconst 0, 1) := by decide +kernel
theorem dX11_within_15 : decode cX11_within 15 = .ok (.ireturn, 1) := by decide +kernel
theorem dX11_isSheet_0 : decode cX11_isSheet 0 = .ok (.iload_n 0, 1) := by decide +kernel
theorem dX11_isSheet_1 : decode cX11_isSheet 1 = .ok (.iconst 0, 1) := by decide +kernel
theorem dX11_isSheet_2 : decode cX11_isSheet 2 = .ok (.iconst 3, 1) := by decide +kernel
theorem dX11_isSheet_3 : decode cX11_isSheet 3 = .ok (.invokestatic 82, 3) := by decide +kernel
theorem dX11_isSheet_6 : decode cX11_isSheet 6 = .ok (.ireturn, 1) := by decide +kernel
theorem dX11_isSort_0 : decode cX11_isSort 0 = .ok (.iload_n 0, 1) := by decide +kernel
theorem dX11_isSort_1 : decode cX11_isSort 1 = .ok (.iconst 0, 1) := by decide +kernel
theorem dX11_isSort_2 : decode cX11_isSort 2 = .ok (.iconst 2, 1) := by decide +kernel
theorem dX11_isSort_3 : decode cX11_isSort 3 = .ok (.invokestatic 82, 3) := by decide +kernel
theorem dX11_isSort_6 : decode cX11_isSort 6 = .ok (.ireturn, 1) := by decide +kernel
theorem dX11_against_0 : decode cX11_against 0 = .ok (.aload_n 0, 1) := by decide +kernel
theorem dX11_against_1 : decode cX11_against 1 = .ok (.getfield 9, 3) := by decide +kernel
theorem dX11_against_4 : decode cX11_against 4 = .ok (.iload_n 1, 1) := by decide +kernel
theorem dX11_against_5 : decode cX11_against 5 = .ok (.iaload, 1) := by decide +kernel
theorem dX11_against_6 : decode cX11_against 6 = .ok (.bipush (-9), 2) := by decide +kernel
theorem dX11_against_8 : decode cX11_against 8 = .ok (.if_icmp .eq 15, 3) := by decide +kernel
theorem dX11_against_11 : decode cX11_against 11 = .ok (.aload_n 0, 1) := by decide +kernel
theorem dX11_against_12 : decode cX11_against 12 = .ok (.getfield 9, 3) := by decide +kernel
theorem dX11_against_15 : decode cX11_against 15 = .ok (.iload_n 1, 1) := by decide +kernel
theorem dX11_against_16 : decode cX11_against 16 = .ok (.iaload, 1) := by decide +kernel
theorem dX11_against_17 : decode cX11_against 17 = .ok (.iload_n 2, 1) := by decide +kernel
theorem dX11_against_18 : decode cX11_against 18 = .ok (.if_icmp .eq 5, 3) := by decide +kernel
theorem dX11_against_21 : decode cX11_against 21 = .ok (.iconst 2, 1) := by decide +kernel
theorem dX11_against_22 : decode cX11_against 22 = .ok (.ireturn, 1) := by decide +kernel
theorem dX11_against_23 : decode cX11_against 23 = .ok (.aload_n 0, 1) := by decide +kernel
theorem dX11_against_24 : decode cX11_against 24 = .ok (.getfield 9, 3) := by decide +kernel
theorem dX11_against_27 : decode cX11_against 27 = .ok (.iload_n 1, 1) := by decide +kernel
theorem dX11_against_28 : decode cX11_against 28 = .ok (.iaload, 1) := by decide +kernel
theorem dX11_against_29 : decode cX11_against 29 = .ok (.bipush (-9), 2) := by decide +kernel
theorem dX11_against_31 : decode cX11_against 31 = .ok (.if_icmp .ne 5, 3) := by decide +kernel
theorem dX11_against_34 : decode cX11_against 34 = .ok (.iconst 1, 1) := by decide +kernel
theorem dX11_against_35 : decode cX11_against 35 = .ok (.ireturn, 1) := by decide +kernel
theorem dX11_against_36 : decode cX11_against 36 = .ok (.iload 4, 2) := by decide +kernel
theorem dX11_against_38 : decode cX11_against 38 = .ok (.ifCond .ge 5, 3) := by decide +kernel
theorem dX11_against_41 : decode cX11_against 41 = .ok (.iconst 4, 1) := by decide +kernel
theorem dX11_against_42 : decode cX11_against 42 = .ok (.ireturn, 1) := by decide +kernel
theorem dX11_against_43 : decode cX11_against 43 = .ok (.iload_n 3, 1) := by decide +kernel
theorem dX11_against_44 : decode cX11_against 44 = .ok (.ifCond .lt 26, 3) := by decide +kernel
theorem dX11_against_47 : decode cX11_against 47 = .ok (.iload_n 3, 1) := by decide +kernel
theorem dX11_against_48 : decode cX11_against 48 = .ok (.aload_n 0, 1) := by decide +kernel
theorem dX11_against_49 : decode cX11_against 49 = .ok (.getfield 13, 3) := by decide +kernel
theorem dX11_against_52 : decode cX11_against 52 = .ok (.iload_n 1, 1) := by decide +kernel
theorem dX11_against_53 : decode cX11_against 53 = .ok (.iaload, 1) := by decide +kernel
theorem dX11_against_54 : decode cX11_against 54 = .ok (.if_icmp .gt 16, 3) := by decide +kernel
theorem dX11_against_57 : decode cX11_against 57 = .ok (.iload 4, 2) := by decide +kernel
theorem dX11_against_59 : decode cX11_against 59 = .ok (.aload_n 0, 1) := by decide +kernel
theorem dX11_against_60 : decode cX11_against 60 = .ok (.getfield 13, 3) := by decide +kernel
theorem dX11_against_63 : decode cX11_against 63 = .ok (.iload_n 1, 1) := by decide +kernel
theorem dX11_against_64 : decode cX11_against 64 = .ok (.iaload, 1) := by decide +kernel
theorem dX11_against_65 : decode cX11_against 65 = .ok (.iload_n 3, 1) := by decide +kernel
theorem dX11_against_66 : decode cX11_against 66 = .ok (.isub, 1) := by decide +kernel
theorem dX11_against_67 : decode cX11_against 67 = .ok (.if_icmp .le 7, 3) := by decide +kernel
theorem dX11_against_70 : decode cX11_against 70 = .ok (.iconst 3, 1) := by decide +kernel
theorem dX11_against_71 : decode cX11_against 71 = .ok (.goto 4, 3) := by decide +kernel
theorem dX11_against_74 : decode cX11_against 74 = .ok (.iconst 0, 1) := by decide +kernel
theorem dX11_against_75 : decode cX11_against 75 = .ok (.ireturn, 1) := by decide +kernel
theorem dX11_isTaker_0 : decode cX11_isTaker 0 = .ok (.iload_n 1, 1) := by decide +kernel
theorem dX11_isTaker_1 : decode cX11_isTaker 1 = .ok (.ifCond .lt 15, 3) := by decide +kernel
theorem dX11_isTaker_4 : decode cX11_isTaker 4 = .ok (.iload_n 1, 1) := by decide +kernel
theorem dX11_isTaker_5 : decode cX11_isTaker 5 = .ok (.aload_n 0, 1) := by decide +kernel
theorem dX11_isTaker_6 : decode cX11_isTaker 6 = .ok (.getfield 86, 3) := by decide +kernel
theorem dX11_isTaker_9 : decode cX11_isTaker 9 = .ok (.if_icmp .ge 7, 3) := by decide +kernel
theorem dX11_isTaker_12 : decode cX11_isTaker 12 = .ok (.iconst 1, 1) := by decide +kernel
theorem dX11_isTaker_13 : decode cX11_isTaker 13 = .ok (.goto 4, 3) := by decide +kernel
theorem dX11_isTaker_16 : decode cX11_isTaker 16 = .ok (.iconst 0, 1) := by decide +kernel
theorem dX11_isTaker_17 : decode cX11_isTaker 17 = .ok (.ireturn, 1) := by decide +kernel
theorem dX11_isPlace_0 : decode cX11_isPlace 0 = .ok (.iload_n 1, 1) := by decide +kernel
theorem dX11_isPlace_1 : decode cX11_isPlace 1 = .ok (.ifCond .lt 15, 3) := by decide +kernel
theorem dX11_isPlace_4 : decode cX11_isPlace 4 = .ok (.iload_n 1, 1) := by decide +kernel
theorem dX11_isPlace_5 : decode cX11_isPlace 5 = .ok (.aload_n 0, 1) := by decide +kernel
theorem dX11_isPlace_6 : decode cX11_isPlace 6 = .ok (.getfield 89, 3) := by decide +kernel
theorem dX11_isPlace_9 : decode cX11_isPlace 9 = .ok (.if_icmp .ge 7, 3) := by decide +kernel
theorem dX11_isPlace_12 : decode cX11_isPlace 12 = .ok (.iconst 1, 1) := by decide +kernel
theorem dX11_isPlace_13 : decode cX11_isPlace 13 = .ok (.goto 4, 3) := by decide +kernel
theorem dX11_isPlace_16 : decode cX11_isPlace 16 = .ok (.iconst 0, 1) := by decide +kernel
theorem dX11_isPlace_17 : decode cX11_isPlace 17 = .ok (.ireturn, 1) := by decide +kernel
theorem dX11_digit_0 : decode cX11_digit 0 = .ok (.aload_n 0, 1) := by decide +kernel
theorem dX11_digit_1 : decode cX11_digit 1 = .ok (.getfield 92, 3) := by decide +kernel
theorem dX11_digit_4 : decode cX11_digit 4 = .ok (.iload_n 1, 1) := by decide +kernel
theorem dX11_digit_5 : decode cX11_digit 5 = .ok (.if_icmp .ge 24, 3) := by decide +kernel
theorem dX11_digit_8 : decode cX11_digit 8 = .ok (.aload_n 0, 1) := by decide +kernel
theorem dX11_digit_9 : decode cX11_digit 9 = .ok (.getfield 16, 3) := by decide +kernel
theorem dX11_digit_12 : decode cX11_digit 12 = .ok (.aload_n 0, 1) := by decide +kernel
theorem dX11_digit_13 : decode cX11_digit 13 = .ok (.getfield 92, 3) := by decide +kernel
theorem dX11_digit_16 : decode cX11_digit 16 = .ok (.iaload, 1) := by decide +kernel
theorem dX11_digit_17 : decode cX11_digit 17 = .ok (.bipush 48, 2) := by decide +kernel
theorem dX11_digit_19 : decode cX11_digit 19 = .ok (.iload_n 2, 1) := by decide +kernel
theorem dX11_digit_20 : decode cX11_digit 20 = .ok (.iadd, 1) := by decide +kernel
theorem dX11_digit_21 : decode cX11_digit 21 = .ok (.bipush 57, 2) := by decide +kernel
theorem dX11_digit_23 : decode cX11_digit 23 = .ok (.invokestatic 82, 3) := by decide +kernel
theorem dX11_digit_26 : decode cX11_digit 26 = .ok (.ifCond .ne 6, 3) := by decide +kernel
theorem dX11_digit_29 : decode cX11_digit 29 = .ok (.bipush (-9), 2) := by decide +kernel
theorem dX11_digit_31 : decode cX11_digit 31 = .ok (.ireturn, 1) := by decide +kernel
theorem dX11_digit_32 : decode cX11_digit 32 = .ok (.aload_n 0, 1) := by decide +kernel
theorem dX11_digit_33 : decode cX11_digit 33 = .ok (.dup, 1) := by decide +kernel
theorem dX11_digit_34 : decode cX11_digit 34 = .ok (.getfield 92, 3) := by decide +kernel
theorem dX11_digit_37 : decode cX11_digit 37 = .ok (.iconst 1, 1) := by decide +kernel
theorem dX11_digit_38 : decode cX11_digit 38 = .ok (.iadd, 1) := by decide +kernel
theorem dX11_digit_39 : decode cX11_digit 39 = .ok (.putfield 92, 3) := by decide +kernel
theorem dX11_digit_42 : decode cX11_digit 42 = .ok (.aload_n 0, 1) := by decide +kernel
theorem dX11_digit_43 : decode cX11_digit 43 = .ok (.getfield 16, 3) := by decide +kernel
theorem dX11_digit_46 : decode cX11_digit 46 = .ok (.aload_n 0, 1) := by decide +kernel
theorem dX11_digit_47 : decode cX11_digit 47 = .ok (.getfield 92, 3) := by decide +kernel
theorem dX11_digit_50 : decode cX11_digit 50 = .ok (.iconst 1, 1) := by decide +kernel
theorem dX11_digit_51 : decode cX11_digit 51 = .ok (.isub, 1) := by decide +kernel
theorem dX11_digit_52 : decode cX11_digit 52 = .ok (.iaload, 1) := by decide +kernel
theorem dX11_digit_53 : decode cX11_digit 53 = .ok (.bipush 48, 2) := by decide +kernel
theorem dX11_digit_55 : decode cX11_digit 55 = .ok (.isub, 1) := by decide +kernel
theorem dX11_digit_56 : decode cX11_digit 56 = .ok (.ireturn, 1) := by decide +kernel
theorem dX11_isSign_0 : decode cX11_isSign 0 = .ok (.aload_n 0, 1) := by decide +kernel
theorem dX11_isSign_1 : decode cX11_isSign 1 = .ok (.getfield 92, 3) := by decide +kernel
theorem dX11_isSign_4 : decode cX11_isSign 4 = .ok (.iload_n 1, 1) := by decide +kernel
theorem dX11_isSign_5 : decode cX11_isSign 5 = .ok (.if_icmp .ge 16, 3) := by decide +kernel
theorem dX11_isSign_8 : decode cX11_isSign 8 = .ok (.aload_n 0, 1) := by decide +kernel
theorem dX11_isSign_9 : decode cX11_isSign 9 = .ok (.getfield 16, 3) := by decide +kernel
theorem dX11_isSign_12 : decode cX11_isSign 12 = .ok (.aload_n 0, 1) := by decide +kernel
theorem dX11_isSign_13 : decode cX11_isSign 13 = .ok (.getfield 92, 3) := by decide +kernel
theorem dX11_isSign_16 : decode cX11_isSign 16 = .ok (.iaload, 1) := by decide +kernel
theorem dX11_isSign_17 : decode cX11_isSign 17 = .ok (.iload_n 2, 1) := by decide +kernel
theorem dX11_isSign_18 : decode cX11_isSign 18 = .ok (.if_icmp .eq 5, 3) := by decide +kernel
theorem dX11_isSign_21 : decode cX11_isSign 21 = .ok (.iconst 0, 1) := by decide +kernel
theorem dX11_isSign_22 : decode cX11_isSign 22 = .ok (.ireturn, 1) := by decide +kernel
theorem dX11_isSign_23 : decode cX11_isSign 23 = .ok (.aload_n 0, 1) := by decide +kernel
theorem dX11_isSign_24 : decode cX11_isSign 24 = .ok (.dup, 1) := by decide +kernel
theorem dX11_isSign_25 : decode cX11_isSign 25 = .ok (.getfield 92, 3) := by decide +kernel
theorem dX11_isSign_28 : decode cX11_isSign 28 = .ok (.iconst 1, 1) := by decide +kernel
theorem dX11_isSign_29 : decode cX11_isSign 29 = .ok (.iadd, 1) := by decide +kernel
theorem dX11_isSign_30 : decode cX11_isSign 30 = .ok (.putfield 92, 3) := by decide +kernel
theorem dX11_isSign_33 : decode cX11_isSign 33 = .ok (.iconst 1, 1) := by decide +kernel
theorem dX11_isSign_34 : decode cX11_isSign 34 = .ok (.ireturn, 1) := by decide +kernel
theorem dX11_vault_0 : decode cX11_vault 0 = .ok (.aload_n 0, 1) := by decide +kernel
theorem dX11_vault_1 : decode cX11_vault 1 = .ok (.iconst 0, 1) := by decide +kernel
theorem dX11_vault_2 : decode cX11_vault 2 = .ok (.putfield 76, 3) := by decide +kernel
theorem dX11_vault_5 : decode cX11_vault 5 = .ok (.iload_n 1, 1) := by decide +kernel
theorem dX11_vault_6 : decode cX11_vault 6 = .ok (.invokestatic 95, 3) := by decide +kernel
theorem dX11_vault_9 : decode cX11_vault 9 = .ok (.ifCond .ne 5, 3) := by decide +kernel
theorem dX11_vault_12 : decode cX11_vault 12 = .ok (.iconst (-1), 1) := by decide +kernel
theorem dX11_vault_13 : decode cX11_vault 13 = .ok (.ireturn, 1) := by decide +kernel
theorem dX11_vault_14 : decode cX11_vault 14 = .ok (.iload_n 2, 1) := by decide +kernel
theorem dX11_vault_15 : decode cX11_vault 15 = .ok (.invokestatic 99, 3) := by decide +kernel
theorem dX11_vault_18 : decode cX11_vault 18 = .ok (.ifCond .ne 6, 3) := by decide +kernel
theorem dX11_vault_21 : decode cX11_vault 21 = .ok (.bipush (-2), 2) := by decide +kernel
theorem dX11_vault_23 : decode cX11_vault 23 = .ok (.ireturn, 1) := by decide +kernel
theorem dX11_vault_24 : decode cX11_vault 24 = .ok (.aload_n 0, 1) := by decide +kernel
theorem dX11_vault_25 : decode cX11_vault 25 = .ok (.iload_n 1, 1) := by decide +kernel
theorem dX11_vault_26 : decode cX11_vault 26 = .ok (.iload_n 2, 1) := by decide +kernel
theorem dX11_vault_27 : decode cX11_vault 27 = .ok (.iload_n 3, 1) := by decide +kernel
theorem dX11_vault_28 : decode cX11_vault 28 = .ok (.iload 4, 2) := by decide +kernel
theorem dX11_vault_30 : decode cX11_vault 30 = .ok (.invokevirtual 102, 3) := by decide +kernel
theorem dX11_vault_33 : decode cX11_vault 33 = .ok (.istore 5, 2) := by decide +kernel
theorem dX11_vault_35 : decode cX11_vault 35 = .ok (.iload 5, 2) := by decide +kernel
theorem dX11_vault_37 : decode cX11_vault 37 = .ok (.ifCond .eq 10, 3) := by decide +kernel
theorem dX11_vault_40 : decode cX11_vault 40 = .ok (.aload_n 0, 1) := by decide +kernel
theorem dX11_vault_41 : decode cX11_vault 41 = .ok (.iload 5, 2) := by decide +kernel
theorem dX11_vault_43 : decode cX11_vault 43 = .ok (.invokevirtual 106, 3) := by decide +kernel
theorem dX11_vault_46 : decode cX11_vault 46 = .ok (.ireturn, 1) := by decide +kernel
theorem dX11_vault_47 : decode cX11_vault 47 = .ok (.bipush 60, 2) := by decide +kernel
theorem dX11_vault_49 : decode cX11_vault 49 = .ok (.iload_n 1, 1) := by decide +kernel
theorem dX11_vault_50 : decode cX11_vault 50 = .ok (.imul, 1) := by decide +kernel
theorem dX11_vault_51 : decode cX11_vault 51 = .ok (.iload_n 3, 1) := by decide +kernel
theorem dX11_vault_52 : decode cX11_vault 52 = .ok (.iadd, 1) := by decide +kernel
theorem dX11_vault_53 : decode cX11_vault 53 = .ok (.istore 6, 2) := by decide +kernel
theorem dX11_vault_55 : decode cX11_vault 55 = .ok (.aload_n 0, 1) := by decide +kernel
theorem dX11_vault_56 : decode cX11_vault 56 = .ok (.iload 6, 2) := by decide +kernel
theorem dX11_vault_58 : decode cX11_vault 58 = .ok (.putfield 92, 3) := by decide +kernel
theorem dX11_vault_61 : decode cX11_vault 61 = .ok (.aload_n 0, 1) := by decide +kernel
theorem dX11_vault_62 : decode cX11_vault 62 = .ok (.iload 6, 2) := by decide +kernel
theorem dX11_vault_64 : decode cX11_vault 64 = .ok (.iload 4, 2) := by decide +kernel
theorem dX11_vault_66 : decode cX11_vault 66 = .ok (.iadd, 1) := by decide +kernel
theorem dX11_vault_67 : decode cX11_vault 67 = .ok (.invokevirtual 110, 3) := by decide +kernel
theorem dX11_vault_70 : decode cX11_vault 70 = .ok (.ifCond .ne 14, 3) := by decide +kernel
theorem dX11_vault_73 : decode cX11_vault 73 = .ok (.bipush (-100), 2) := by decide +kernel
theorem dX11_vault_75 : decode cX11_vault 75 = .ok (.aload_n 0, 1) := by decide +kernel
theorem dX11_vault_76 : decode cX11_vault 76 = .ok (.getfield 92, 3) := by decide +kernel
theorem dX11_vault_79 : decode cX11_vault 79 = .ok (.iload 6, 2) := by decide +kernel
theorem dX11_vault_81 : decode cX11_vault 81 = .ok (.isub, 1) := by decide +kernel
theorem dX11_vault_82 : decode cX11_vault 82 = .ok (.isub, 1) := by decide +kernel
theorem dX11_vault_83 : decode cX11_vault 83 = .ok (.ireturn, 1) := by decide +kernel
theorem dX11_vault_84 : decode cX11_vault 84 = .ok (.aload_n 0, 1) := by decide +kernel
theorem dX11_vault_85 : decode cX11_vault 85 = .ok (.invokevirtual 113, 3) := by decide +kernel
theorem dX11_vault_88 : decode cX11_vault 88 = .ok (.aload_n 0, 1) := by decide +kernel
theorem dX11_vault_89 : decode cX11_vault 89 = .ok (.getfield 86, 3) := by decide +kernel
theorem dX11_vault_92 : decode cX11_vault 92 = .ok (.ireturn, 1) := by decide +kernel
theorem dX11_takeVault_0 : decode cX11_takeVault 0 = .ok (.aload_n 0, 1) := by decide +kernel
theorem dX11_takeVault_1 : decode cX11_takeVault 1 = .ok (.aload_n 0, 1) := by decide +kernel
theorem dX11_takeVault_2 : decode cX11_takeVault 2 = .ok (.getfield 116, 3) := by decide +kernel
theorem dX11_takeVault_5 : decode cX11_takeVault 5 = .ok (.putfield 89, 3) := by decide +kernel
theorem dX11_takeVault_8 : decode cX11_takeVault 8 = .ok (.iconst 0, 1) := by decide +kernel
theorem dX11_takeVault_9 : decode cX11_takeVault 9 = .ok (.istore_n 1, 1) := by decide +kernel
theorem dX11_takeVault_10 : decode cX11_takeVault 10 = .ok (.iload_n 1, 1) := by decide +kernel
theorem dX11_takeVault_11 : decode cX11_takeVault 11 = .ok (.aload_n 0, 1) := by decide +kernel
theorem dX11_takeVault_12 : decode cX11_takeVault 12 = .ok (.getfield 89, 3) := by decide +kernel
theorem dX11_takeVault_15 : decode cX11_takeVault 15 = .ok (.if_icmp .ge 21, 3) := by decide +kernel
theorem dX11_takeVault_18 : decode cX11_takeVault 18 = .ok (.aload_n 0, 1) := by decide +kernel
theorem dX11_takeVault_19 : decode cX11_takeVault 19 = .ok (.getfield 19, 3) := by decide +kernel
theorem dX11_takeVault_22 : decode cX11_takeVault 22 = .ok (.iload_n 1, 1) := by decide +kernel
theorem dX11_takeVault_23 : decode cX11_takeVault 23 = .ok (.aload_n 0, 1) := by decide +kernel
theorem dX11_takeVault_24 : decode cX11_takeVault 24 = .ok (.getfield 34, 3) := by decide +kernel
theorem dX11_takeVault_27 : decode cX11_takeVault 27 = .ok (.iload_n 1, 1) := by decide +kernel
theorem dX11_takeVault_28 : decode cX11_takeVault 28 = .ok (.iaload, 1) := by decide +kernel
theorem dX11_takeVault_29 : decode cX11_takeVault 29 = .ok (.iastore, 1) := by decide +kernel
theorem dX11_takeVault_30 : decode cX11_takeVault 30 = .ok (.iinc 1 1, 3) := by decide +kernel
theorem dX11_takeVault_33 : decode cX11_takeVault 33 = .ok (.goto (-23), 3) := by decide +kernel
theorem dX11_takeVault_36 : decode cX11_takeVault 36 = .ok (.aload_n 0, 1) := by decide +kernel
theorem dX11_takeVault_37 : decode cX11_takeVault 37 = .ok (.aload_n 0, 1) := by decide +kernel
theorem dX11_takeVault_38 : decode cX11_takeVault 38 = .ok (.getfield 119, 3) := by decide +kernel
theorem dX11_takeVault_41 : decode cX11_takeVault 41 = .ok (.putfield 86, 3) := by decide +kernel
theorem dX11_takeVault_44 : decode cX11_takeVault 44 = .ok (.iconst 0, 1) := by decide +kernel
theorem dX11_takeVault_45 : decode cX11_takeVault 45 = .ok (.istore_n 1, 1) := by decide +kernel
theorem dX11_takeVault_46 : decode cX11_takeVault 46 = .ok (.iload_n 1, 1) := by decide +kernel
theorem dX11_takeVault_47 : decode cX11_takeVault 47 = .ok (.aload_n 0, 1) := by decide +kernel
theorem dX11_takeVault_48 : decode cX11_takeVault 48 = .ok (.getfield 86, 3) := by decide +kernel
theorem dX11_takeVault_51 : decode cX11_takeVault 51 = .ok (.if_icmp .ge 45, 3) := by decide +kernel
theorem dX11_takeVault_54 : decode cX11_takeVault 54 = .ok (.aload_n 0, 1) := by decide +kernel
theorem dX11_takeVault_55 : decode cX11_takeVault 55 = .ok (.getfield 22, 3) := by decide +kernel
theorem dX11_takeVault_58 : decode cX11_takeVault 58 = .ok (.iload_n 1, 1) := by decide +kernel
theorem dX11_takeVault_59 : decode cX11_takeVault 59 = .ok (.aload_n 0, 1) := by decide +kernel
theorem dX11_takeVault_60 : decode cX11_takeVault 60 = .ok (.getfield 37, 3) := by decide +kernel
theorem dX11_takeVault_63 : decode cX11_takeVault 63 = .ok (.iload_n 1, 1) := by decide +kernel
theorem dX11_takeVault_64 : decode cX11_takeVault 64 = .ok (.iaload, 1) := by decide +kernel
theorem dX11_takeVault_65 : decode cX11_takeVault 65 = .ok (.iastore, 1) := by decide +kernel
theorem dX11_takeVault_66 : decode cX11_takeVault 66 = .ok (.aload_n 0, 1) := by decide +kernel
theorem dX11_takeVault_67 : decode cX11_takeVault 67 = .ok (.getfield 25, 3) := by decide +kernel
theorem dX11_takeVault_70 : decode cX11_takeVault 70 = .ok (.iload_n 1, 1) := by decide +kernel
theorem dX11_takeVault_71 : decode cX11_takeVault 71 = .ok (.aload_n 0, 1) := by decide +kernel
theorem dX11_takeVault_72 : decode cX11_takeVault 72 = .ok (.getfield 40, 3) := by decide +kernel
theorem dX11_takeVault_75 : decode cX11_takeVault 75 = .ok (.iload_n 1, 1) := by decide +kernel
theorem dX11_takeVault_76 : decode cX11_takeVault 76 = .ok (.iaload, 1) := by decide +kernel
theorem dX11_takeVault_77 : decode cX11_takeVault 77 = .ok (.iastore, 1) := by decide +kernel
theorem dX11_takeVault_78 : decode cX11_takeVault 78 = .ok (.aload_n 0, 1) := by decide +kernel
theorem dX11_takeVault_79 : decode cX11_takeVault 79 = .ok (.getfield 28, 3) := by decide +kernel
theorem dX11_takeVault_82 : decode cX11_takeVault 82 = .ok (.iload_n 1, 1) := by decide +kernel
theorem dX11_takeVault_83 : decode cX11_takeVault 83 = .ok (.aload_n 0, 1) := by decide +kernel
theorem dX11_takeVault_84 : decode cX11_takeVault 84 = .ok (.getfield 43, 3) := by decide +kernel
theorem dX11_takeVault_87 : decode cX11_takeVault 87 = .ok (.iload_n 1, 1) := by decide +kernel
theorem dX11_takeVault_88 : decode cX11_takeVault 88 = .ok (.iaload, 1) := by decide +kernel
theorem dX11_takeVault_89 : decode cX11_takeVault 89 = .ok (.iastore, 1) := by decide +kernel
theorem dX11_takeVault_90 : decode cX11_takeVault 90 = .ok (.iinc 1 1, 3) := by decide +kernel
theorem dX11_takeVault_93 : decode cX11_takeVault 93 = .ok (.goto (-47), 3) := by decide +kernel
theorem dX11_takeVault_96 : decode cX11_takeVault 96 = .ok (.aload_n 0, 1) := by decide +kernel
theorem dX11_takeVault_97 : decode cX11_takeVault 97 = .ok (.aload_n 0, 1) := by decide +kernel
theorem dX11_takeVault_98 : decode cX11_takeVault 98 = .ok (.getfield 122, 3) := by decide +kernel
theorem dX11_takeVault_101 : decode cX11_takeVault 101 = .ok (.putfield 125, 3) := by decide +kernel
theorem dX11_takeVault_104 : decode cX11_takeVault 104 = .ok (.iconst 0, 1) := by decide +kernel
theorem dX11_takeVault_105 : decode cX11_takeVault 105 = .ok (.istore_n 1, 1) := by decide +kernel
theorem dX11_takeVault_106 : decode cX11_takeVault 106 = .ok (.iload_n 1, 1) := by decide +kernel
theorem dX11_takeVault_107 : decode cX11_takeVault 107 = .ok (.aload_n 0, 1) := by decide +kernel
theorem dX11_takeVault_108 : decode cX11_takeVault 108 = .ok (.getfield 125, 3) := by decide +kernel
theorem dX11_takeVault_111 : decode cX11_takeVault 111 = .ok (.if_icmp .ge 21, 3) := by decide +kernel
theorem dX11_takeVault_114 : decode cX11_takeVault 114 = .ok (.aload_n 0, 1) := by decide +kernel
theorem dX11_takeVault_115 : decode cX11_takeVault 115 = .ok (.getfield 31, 3) := by decide +kernel
theorem dX11_takeVault_118 : decode cX11_takeVault 118 = .ok (.iload_n 1, 1) := by decide +kernel
theorem dX11_takeVault_119 : decode cX11_takeVault 119 = .ok (.aload_n 0, 1) := by decide +kernel
theorem dX11_takeVault_120 : decode cX11_takeVault 120 = .ok (.getfield 46, 3) := by decide +kernel
theorem dX11_takeVault_123 : decode cX11_takeVault 123 = .ok (.iload_n 1, 1) := by decide +kernel
theorem dX11_takeVault_124 : decode cX11_takeVault 124 = .ok (.iaload, 1) := by decide +kernel
theorem dX11_takeVault_125 : decode cX11_takeVault 125 = .ok (.iastore, 1) := by decide +kernel
theorem dX11_takeVault_126 : decode cX11_takeVault 126 = .ok (.iinc 1 1, 3) := by decide +kernel
theorem dX11_takeVault_129 : decode cX11_takeVault 129 = .ok (.goto (-23), 3) := by decide +kernel
theorem dX11_takeVault_132 : decode cX11_takeVault 132 = .ok (.aload_n 0, 1) := by decide +kernel
theorem dX11_takeVault_133 : decode cX11_takeVault 133 = .ok (.iconst 0, 1) := by decide +kernel
theorem dX11_takeVault_134 : decode cX11_takeVault 134 = .ok (.putfield 128, 3) := by decide +kernel
theorem dX11_takeVault_137 : decode cX11_takeVault 137 = .ok (.return_, 1) := by decide +kernel
theorem dX11_readVault_0 : decode cX11_readVault 0 = .ok (.aload_n 0, 1) := by decide +kernel
theorem dX11_readVault_1 : decode cX11_readVault 1 = .ok (.iload_n 1, 1) := by decide +kernel
theorem dX11_readVault_2 : decode cX11_readVault 2 = .ok (.bipush 118, 2) := by decide +kernel
theorem dX11_readVault_4 : decode cX11_readVault 4 = .ok (.invokevirtual 131, 3) := by decide +kernel
theorem dX11_readVault_7 : decode cX11_readVault 7 = .ok (.ifCond .eq 11, 3) := by decide +kernel
theorem dX11_readVault_10 : decode cX11_readVault 10 = .ok (.aload_n 0, 1) := by decide +kernel
theorem dX11_readVault_11 : decode cX11_readVault 11 = .ok (.iload_n 1, 1) := by decide +kernel
theorem dX11_readVault_12 : decode cX11_readVault 12 = .ok (.invokevirtual 135, 3) := by decide +kernel
theorem dX11_readVault_15 : decode cX11_readVault 15 = .ok (.ifCond .ne 5, 3) := by decide +kernel
theorem dX11_readVault_18 : decode cX11_readVault 18 = .ok (.iconst 0, 1) := by decide +kernel
theorem dX11_readVault_19 : decode cX11_readVault 19 = .ok (.ireturn, 1) := by decide +kernel
theorem dX11_readVault_20 : decode cX11_readVault 20 = .ok (.aload_n 0, 1) := by decide +kernel
theorem dX11_readVault_21 : decode cX11_readVault 21 = .ok (.iconst 0, 1) := by decide +kernel
theorem dX11_readVault_22 : decode cX11_readVault 22 = .ok (.putfield 119, 3) := by decide +kernel
theorem dX11_readVault_25 : decode cX11_readVault 25 = .ok (.aload_n 0, 1) := by decide +kernel
theorem dX11_readVault_26 : decode cX11_readVault 26 = .ok (.iload_n 1, 1) := by decide +kernel
theorem dX11_readVault_27 : decode cX11_readVault 27 = .ok (.bipush 59, 2) := by decide +kernel
theorem dX11_readVault_29 : decode cX11_readVault 29 = .ok (.invokevirtual 131, 3) := by decide +kernel
theorem dX11_readVault_32 : decode cX11_readVault 32 = .ok (.ifCond .eq 11, 3) := by decide +kernel
theorem dX11_readVault_35 : decode cX11_readVault 35 = .ok (.aload_n 0, 1) := by decide +kernel
theorem dX11_readVault_36 : decode cX11_readVault 36 = .ok (.iload_n 1, 1) := by decide +kernel
theorem dX11_readVault_37 : decode cX11_readVault 37 = .ok (.invokevirtual 138, 3) := by decide +kernel
theorem dX11_readVault_40 : decode cX11_readVault 40 = .ok (.ifCond .ne 5, 3) := by decide +kernel
theorem dX11_readVault_43 : decode cX11_readVault 43 = .ok (.iconst 0, 1) := by decide +kernel
theorem dX11_readVault_44 : decode cX11_readVault 44 = .ok (.ireturn, 1) := by decide +kernel
theorem dX11_readVault_45 : decode cX11_readVault 45 = .ok (.aload_n 0, 1) := by decide +kernel
theorem dX11_readVault_46 : decode cX11_readVault 46 = .ok (.getfield 119, 3) := by decide +kernel
theorem dX11_readVault_49 : decode cX11_readVault 49 = .ok (.iconst 5, 1) := by decide +kernel
theorem dX11_readVault_50 : decode cX11_readVault 50 = .ok (.if_icmp .ge 23, 3) := by decide +kernel
theorem dX11_readVault_53 : decode cX11_readVault 53 = .ok (.aload_n 0, 1) := by decide +kernel
theorem dX11_readVault_54 : decode cX11_readVault 54 = .ok (.iload_n 1, 1) := by decide +kernel
theorem dX11_readVault_55 : decode cX11_readVault 55 = .ok (.bipush 59, 2) := by decide +kernel
theorem dX11_readVault_57 : decode cX11_readVault 57 = .ok (.invokevirtual 131, 3) := by decide +kernel
theorem dX11_readVault_60 : decode cX11_readVault 60 = .ok (.ifCond .eq 13, 3) := by decide +kernel
theorem dX11_readVault_63 : decode cX11_readVault 63 = .ok (.aload_n 0, 1) := by decide +kernel
theorem dX11_readVault_64 : decode cX11_readVault 64 = .ok (.iload_n 1, 1) := by decide +kernel
theorem dX11_readVault_65 : decode cX11_readVault 65 = .ok (.invokevirtual 138, 3) := by decide +kernel
theorem dX11_readVault_68 : decode cX11_readVault 68 = .ok (.ifCond .ne (-23), 3) := by decide +kernel
theorem dX11_readVault_71 : decode cX11_readVault 71 = .ok (.iconst 0, 1) := by decide +kernel
theorem dX11_readVault_72 : decode cX11_readVault 72 = .ok (.ireturn, 1) := by decide +kernel
theorem dX11_readVault_73 : decode cX11_readVault 73 = .ok (.aload_n 0, 1) := by decide +kernel
theorem dX11_readVault_74 : decode cX11_readVault 74 = .ok (.iload_n 1, 1) := by decide +kernel
theorem dX11_readVault_75 : decode cX11_readVault 75 = .ok (.bipush 47, 2) := by decide +kernel
theorem dX11_readVault_77 : decode cX11_readVault 77 = .ok (.invokevirtual 131, 3) := by decide +kernel
theorem dX11_readVault_80 : decode cX11_readVault 80 = .ok (.ifCond .eq 15, 3) := by decide +kernel
theorem dX11_readVault_83 : decode cX11_readVault 83 = .ok (.aload_n 0, 1) := by decide +kernel
theorem dX11_readVault_84 : decode cX11_readVault 84 = .ok (.iload_n 1, 1) := by decide +kernel
theorem dX11_readVault_85 : decode cX11_readVault 85 = .ok (.invokevirtual 141, 3) := by decide +kernel
theorem dX11_readVault_88 : decode cX11_readVault 88 = .ok (.ifCond .eq 7, 3) := by decide +kernel
theorem dX11_readVault_91 : decode cX11_readVault 91 = .ok (.iconst 1, 1) := by decide +kernel
theorem dX11_readVault_92 : decode cX11_readVault 92 = .ok (.goto 4, 3) := by decide +kernel
theorem dX11_readVault_95 : decode cX11_readVault 95 = .ok (.iconst 0, 1) := by decide +kernel
theorem dX11_readVault_96 : decode cX11_readVault 96 = .ok (.ireturn, 1) := by decide +kernel
theorem dX11_readTheGloom_0 : decode cX11_readTheGloom 0 = .ok (.aload_n 0, 1) := by decide +kernel
theorem dX11_readTheGloom_1 : decode cX11_readTheGloom 1 = .ok (.iconst 0, 1) := by decide +kernel
theorem dX11_readTheGloom_2 : decode cX11_readTheGloom 2 = .ok (.putfield 116, 3) := by decide +kernel
theorem dX11_readTheGloom_5 : decode cX11_readTheGloom 5 = .ok (.aload_n 0, 1) := by decide +kernel
theorem dX11_readTheGloom_6 : decode cX11_readTheGloom 6 = .ok (.getfield 116, 3) := by decide +kernel
theorem dX11_readTheGloom_9 : decode cX11_readTheGloom 9 = .ok (.bipush 6, 2) := by decide +kernel
theorem dX11_readTheGloom_11 : decode cX11_readTheGloom 11 = .ok (.if_icmp .ge 52, 3) := by decide +kernel
theorem dX11_readTheGloom_14 : decode cX11_readTheGloom 14 = .ok (.aload_n 0, 1) := by decide +kernel
theorem dX11_readTheGloom_15 : decode cX11_readTheGloom 15 = .ok (.iload_n 1, 1) := by decide +kernel
theorem dX11_readTheGloom_16 : decode cX11_readTheGloom 16 = .ok (.iconst 0, 1) := by decide +kernel
theorem dX11_readTheGloom_17 : decode cX11_readTheGloom 17 = .ok (.invokevirtual 144, 3) := by decide +kernel
theorem dX11_readTheGloom_20 : decode cX11_readTheGloom 20 = .ok (.istore_n 2, 1) := by decide +kernel
theorem dX11_readTheGloom_21 : decode cX11_readTheGloom 21 = .ok (.iload_n 2, 1) := by decide +kernel
theorem dX11_readTheGloom_22 : decode cX11_readTheGloom 22 = .ok (.bipush (-9), 2) := by decide +kernel
theorem dX11_readTheGloom_24 : decode cX11_readTheGloom 24 = .ok (.if_icmp .ne 16, 3) := by decide +kernel
theorem dX11_readTheGloom_27 : decode cX11_readTheGloom 27 = .ok (.aload_n 0, 1) := by decide +kernel
theorem dX11_readTheGloom_28 : decode cX11_readTheGloom 28 = .ok (.getfield 116, 3) := by decide +kernel
theorem dX11_readTheGloom_31 : decode cX11_readTheGloom 31 = .ok (.ifCond .le 7, 3) := by decide +kernel
theorem dX11_readTheGloom_34 : decode cX11_readTheGloom 34 = .ok (.iconst 1, 1) := by decide +kernel
theorem dX11_readTheGloom_35 : decode cX11_readTheGloom 35 = .ok (.goto 4, 3) := by decide +kernel
theorem dX11_readTheGloom_38 : decode cX11_readTheGloom 38 = .ok (.iconst 0, 1) := by decide +kernel
theorem dX11_readTheGloom_39 : decode cX11_readTheGloom 39 = .ok (.ireturn, 1) := by decide +kernel
theorem dX11_readTheGloom_40 : decode cX11_readTheGloom 40 = .ok (.aload_n 0, 1) := by decide +kernel
theorem dX11_readTheGloom_41 : decode cX11_readTheGloom 41 = .ok (.getfield 34, 3) := by decide +kernel
theorem dX11_readTheGloom_44 : decode cX11_readTheGloom 44 = .ok (.aload_n 0, 1) := by decide +kernel
theorem dX11_readTheGloom_45 : decode cX11_readTheGloom 45 = .ok (.getfield 116, 3) := by decide +kernel
theorem dX11_readTheGloom_48 : decode cX11_readTheGloom 48 = .ok (.iload_n 2, 1) := by decide +kernel
theorem dX11_readTheGloom_49 : decode cX11_readTheGloom 49 = .ok (.iastore, 1) := by decide +kernel
theorem dX11_readTheGloom_50 : decode cX11_readTheGloom 50 = .ok (.aload_n 0, 1) := by decide +kernel
theorem dX11_readTheGloom_51 : decode cX11_readTheGloom 51 = .ok (.dup, 1) := by decide +kernel
theorem dX11_readTheGloom_52 : decode cX11_readTheGloom 52 = .ok (.getfield 116, 3) := by decide +kernel
theorem dX11_readTheGloom_55 : decode cX11_readTheGloom 55 = .ok (.iconst 1, 1) := by decide +kernel
theorem dX11_readTheGloom_56 : decode cX11_readTheGloom 56 = .ok (.iadd, 1) := by decide +kernel
theorem dX11_readTheGloom_57 : decode cX11_readTheGloom 57 = .ok (.putfield 116, 3) := by decide +kernel
theorem dX11_readTheGloom_60 : decode cX11_readTheGloom 60 = .ok (.goto (-55), 3) := by decide +kernel
theorem dX11_readTheGloom_63 : decode cX11_readTheGloom 63 = .ok (.iconst 1, 1) := by decide +kernel
theorem dX11_readTheGloom_64 : decode cX11_readTheGloom 64 = .ok (.ireturn, 1) := by decide +kernel
theorem dX11_readTaker_0 : decode cX11_readTaker 0 = .ok (.aload_n 0, 1) := by decide +kernel
theorem dX11_readTaker_1 : decode cX11_readTaker 1 = .ok (.getfield 92, 3) := by decide +kernel
theorem dX11_readTaker_4 : decode cX11_readTaker 4 = .ok (.iload_n 1, 1) := by decide +kernel
theorem dX11_readTaker_5 : decode cX11_readTaker 5 = .ok (.if_icmp .ge 15, 3) := by decide +kernel
theorem dX11_readTaker_8 : decode cX11_readTaker 8 = .ok (.aload_n 0, 1) := by decide +kernel
theorem dX11_readTaker_9 : decode cX11_readTaker 9 = .ok (.getfield 16, 3) := by decide +kernel
theorem dX11_readTaker_12 : decode cX11_readTaker 12 = .ok (.aload_n 0, 1) := by decide +kernel
theorem dX11_readTaker_13 : decode cX11_readTaker 13 = .ok (.getfield 92, 3) := by decide +kernel
theorem dX11_readTaker_16 : decode cX11_readTaker 16 = .ok (.iaload, 1) := by decide +kernel
theorem dX11_readTaker_17 : decode cX11_readTaker 17 = .ok (.goto 4, 3) := by decide +kernel
theorem dX11_readTaker_20 : decode cX11_readTaker 20 = .ok (.iconst 0, 1) := by decide +kernel
theorem dX11_readTaker_21 : decode cX11_readTaker 21 = .ok (.istore_n 2, 1) := by decide +kernel
theorem dX11_readTaker_22 : decode cX11_readTaker 22 = .ok (.aload_n 0, 1) := by decide +kernel
theorem dX11_readTaker_23 : decode cX11_readTaker 23 = .ok (.getfield 37, 3) := by decide +kernel
theorem dX11_readTaker_26 : decode cX11_readTaker 26 = .ok (.aload_n 0, 1) := by decide +kernel
theorem dX11_readTaker_27 : decode cX11_readTaker 27 = .ok (.getfield 119, 3) := by decide +kernel
theorem dX11_readTaker_30 : decode cX11_readTaker 30 = .ok (.iload_n 2, 1) := by decide +kernel
theorem dX11_readTaker_31 : decode cX11_readTaker 31 = .ok (.bipush 116, 2) := by decide +kernel
theorem dX11_readTaker_33 : decode cX11_readTaker 33 = .ok (.if_icmp .ne 7, 3) := by decide +kernel
theorem dX11_readTaker_36 : decode cX11_readTaker 36 = .ok (.iconst 0, 1) := by decide +kernel
theorem dX11_readTaker_37 : decode cX11_readTaker 37 = .ok (.goto 25, 3) := by decide +kernel
theorem dX11_readTaker_40 : decode cX11_readTaker 40 = .ok (.iload_n 2, 1) := by decide +kernel
theorem dX11_readTaker_41 : decode cX11_readTaker 41 = .ok (.bipush 115, 2) := by decide +kernel
theorem dX11_readTaker_43 : decode cX11_readTaker 43 = .ok (.if_icmp .ne 7, 3) := by decide +kernel
theorem dX11_readTaker_46 : decode cX11_readTaker 46 = .ok (.iconst 1, 1) := by decide +kernel
theorem dX11_readTaker_47 : decode cX11_readTaker 47 = .ok (.goto 15, 3) := by decide +kernel
theorem dX11_readTaker_50 : decode cX11_readTaker 50 = .ok (.iload_n 2, 1) := by decide +kernel
theorem dX11_readTaker_51 : decode cX11_readTaker 51 = .ok (.bipush 119, 2) := by decide +kernel
theorem dX11_readTaker_53 : decode cX11_readTaker 53 = .ok (.if_icmp .ne 7, 3) := by decide +kernel
theorem dX11_readTaker_56 : decode cX11_readTaker 56 = .ok (.iconst 2, 1) := by decide +kernel
theorem dX11_readTaker_57 : decode cX11_readTaker 57 = .ok (.goto 5, 3) := by decide +kernel
theorem dX11_readTaker_60 : decode cX11_readTaker 60 = .ok (.bipush (-9), 2) := by decide +kernel
theorem dX11_readTaker_62 : decode cX11_readTaker 62 = .ok (.iastore, 1) := by decide +kernel
theorem dX11_readTaker_63 : decode cX11_readTaker 63 = .ok (.aload_n 0, 1) := by decide +kernel
theorem dX11_readTaker_64 : decode cX11_readTaker 64 = .ok (.getfield 37, 3) := by decide +kernel
theorem dX11_readTaker_67 : decode cX11_readTaker 67 = .ok (.aload_n 0, 1) := by decide +kernel
theorem dX11_readTaker_68 : decode cX11_readTaker 68 = .ok (.getfield 119, 3) := by decide +kernel
theorem dX11_readTaker_71 : decode cX11_readTaker 71 = .ok (.iaload, 1) := by decide +kernel
theorem dX11_readTaker_72 : decode cX11_readTaker 72 = .ok (.bipush (-9), 2) := by decide +kernel
theorem dX11_readTaker_74 : decode cX11_readTaker 74 = .ok (.if_icmp .ne 5, 3) := by decide +kernel
theorem dX11_readTaker_77 : decode cX11_readTaker 77 = .ok (.iconst 0, 1) := by decide +kernel
theorem dX11_readTaker_78 : decode cX11_readTaker 78 = .ok (.ireturn, 1) := by decide +kernel
theorem dX11_readTaker_79 : decode cX11_readTaker 79 = .ok (.aload_n 0, 1) := by decide +kernel
theorem dX11_readTaker_80 : decode cX11_readTaker 80 = .ok (.dup, 1) := by decide +kernel
theorem dX11_readTaker_81 : decode cX11_readTaker 81 = .ok (.getfield 92, 3) := by decide +kernel
theorem dX11_readTaker_84 : decode cX11_readTaker 84 = .ok (.iconst 1, 1) := by decide +kernel
theorem dX11_readTaker_85 : decode cX11_readTaker 85 = .ok (.iadd, 1) := by decide +kernel
theorem dX11_readTaker_86 : decode cX11_readTaker 86 = .ok (.putfield 92, 3) := by decide +kernel
theorem dX11_readTaker_89 : decode cX11_readTaker 89 = .ok (.aload_n 0, 1) := by decide +kernel
theorem dX11_readTaker_90 : decode cX11_readTaker 90 = .ok (.iload_n 1, 1) := by decide +kernel
theorem dX11_readTaker_91 : decode cX11_readTaker 91 = .ok (.iconst 0, 1) := by decide +kernel
theorem dX11_readTaker_92 : decode cX11_readTaker 92 = .ok (.invokevirtual 144, 3) := by decide +kernel
theorem dX11_readTaker_95 : decode cX11_readTaker 95 = .ok (.istore_n 3, 1) := by decide +kernel
theorem dX11_readTaker_96 : decode cX11_readTaker 96 = .ok (.iload_n 3, 1) := by decide +kernel
theorem dX11_readTaker_97 : decode cX11_readTaker 97 = .ok (.bipush (-9), 2) := by decide +kernel
theorem dX11_readTaker_99 : decode cX11_readTaker 99 = .ok (.if_icmp .ne 5, 3) := by decide +kernel
theorem dX11_readTaker_102 : decode cX11_readTaker 102 = .ok (.iconst 0, 1) := by decide +kernel
theorem dX11_readTaker_103 : decode cX11_readTaker 103 = .ok (.ireturn, 1) := by decide +kernel
theorem dX11_readTaker_104 : decode cX11_readTaker 104 = .ok (.aload_n 0, 1) := by decide +kernel
theorem dX11_readTaker_105 : decode cX11_readTaker 105 = .ok (.iload_n 1, 1) := by decide +kernel
theorem dX11_readTaker_106 : decode cX11_readTaker 106 = .ok (.iconst 0, 1) := by decide +kernel
theorem dX11_readTaker_107 : decode cX11_readTaker 107 = .ok (.invokevirtual 144, 3) := by decide +kernel
theorem dX11_readTaker_110 : decode cX11_readTaker 110 = .ok (.istore 4, 2) := by decide +kernel
theorem dX11_readTaker_112 : decode cX11_readTaker 112 = .ok (.iload 4, 2) := by decide +kernel
theorem dX11_readTaker_114 : decode cX11_readTaker 114 = .ok (.bipush (-9), 2) := by decide +kernel
theorem dX11_readTaker_116 : decode cX11_readTaker 116 = .ok (.if_icmp .ne 5, 3) := by decide +kernel
theorem dX11_readTaker_119 : decode cX11_readTaker 119 = .ok (.iconst 0, 1) := by decide +kernel
theorem dX11_readTaker_120 : decode cX11_readTaker 120 = .ok (.ireturn, 1) := by decide +kernel
theorem dX11_readTaker_121 : decode cX11_readTaker 121 = .ok (.aload_n 0, 1) := by decide +kernel
theorem dX11_readTaker_122 : decode cX11_readTaker 122 = .ok (.getfield 40, 3) := by decide +kernel
theorem dX11_readTaker_125 : decode cX11_readTaker 125 = .ok (.aload_n 0, 1) := by decide +kernel
theorem dX11_readTaker_126 : decode cX11_readTaker 126 = .ok (.getfield 119, 3) := by decide +kernel
theorem dX11_readTaker_129 : decode cX11_readTaker 129 = .ok (.bipush 10, 2) := by decide +kernel
theorem dX11_readTaker_131 : decode cX11_readTaker 131 = .ok (.iload_n 3, 1) := by decide +kernel
theorem dX11_readTaker_132 : decode cX11_readTaker 132 = .ok (.imul, 1) := by decide +kernel
theorem dX11_readTaker_133 : decode cX11_readTaker 133 = .ok (.iload 4, 2) := by decide +kernel
theorem dX11_readTaker_135 : decode cX11_readTaker 135 = .ok (.iadd, 1) := by decide +kernel
theorem dX11_readTaker_136 : decode cX11_readTaker 136 = .ok (.iastore, 1) := by decide +kernel
theorem dX11_readTaker_137 : decode cX11_readTaker 137 = .ok (.aload_n 0, 1) := by decide +kernel
theorem dX11_readTaker_138 : decode cX11_readTaker 138 = .ok (.getfield 43, 3) := by decide +kernel
theorem dX11_readTaker_141 : decode cX11_readTaker 141 = .ok (.aload_n 0, 1) := by decide +kernel
theorem dX11_readTaker_142 : decode cX11_readTaker 142 = .ok (.getfield 119, 3) := by decide +kernel
theorem dX11_readTaker_145 : decode cX11_readTaker 145 = .ok (.aload_n 0, 1) := by decide +kernel
theorem dX11_readTaker_146 : decode cX11_readTaker 146 = .ok (.iload_n 1, 1) := by decide +kernel
theorem dX11_readTaker_147 : decode cX11_readTaker 147 = .ok (.iconst 0, 1) := by decide +kernel
theorem dX11_readTaker_148 : decode cX11_readTaker 148 = .ok (.invokevirtual 144, 3) := by decide +kernel
theorem dX11_readTaker_151 : decode cX11_readTaker 151 = .ok (.iastore, 1) := by decide +kernel
theorem dX11_readTaker_152 : decode cX11_readTaker 152 = .ok (.aload_n 0, 1) := by decide +kernel
theorem dX11_readTaker_153 : decode cX11_readTaker 153 = .ok (.dup, 1) := by decide +kernel
theorem dX11_readTaker_154 : decode cX11_readTaker 154 = .ok (.getfield 119, 3) := by decide +kernel
theorem dX11_readTaker_157 : decode cX11_readTaker 157 = .ok (.iconst 1, 1) := by decide +kernel
theorem dX11_readTaker_158 : decode cX11_readTaker 158 = .ok (.iadd, 1) := by decide +kernel
theorem dX11_readTaker_159 : decode cX11_readTaker 159 = .ok (.putfield 119, 3) := by decide +kernel
theorem dX11_readTaker_162 : decode cX11_readTaker 162 = .ok (.aload_n 0, 1) := by decide +kernel
theorem dX11_readTaker_163 : decode cX11_readTaker 163 = .ok (.getfield 43, 3) := by decide +kernel
theorem dX11_readTaker_166 : decode cX11_readTaker 166 = .ok (.aload_n 0, 1) := by decide +kernel
theorem dX11_readTaker_167 : decode cX11_readTaker 167 = .ok (.getfield 119, 3) := by decide +kernel
theorem dX11_readTaker_170 : decode cX11_readTaker 170 = .ok (.iconst 1, 1) := by decide +kernel
theorem dX11_readTaker_171 : decode cX11_readTaker 171 = .ok (.isub, 1) := by decide +kernel
theorem dX11_readTaker_172 : decode cX11_readTaker 172 = .ok (.iaload, 1) := by decide +kernel
theorem dX11_readTaker_173 : decode cX11_readTaker 173 = .ok (.bipush (-9), 2) := by decide +kernel
theorem dX11_readTaker_175 : decode cX11_readTaker 175 = .ok (.if_icmp .eq 7, 3) := by decide +kernel
theorem dX11_readTaker_178 : decode cX11_readTaker 178 = .ok (.iconst 1, 1) := by decide +kernel
theorem dX11_readTaker_179 : decode cX11_readTaker 179 = .ok (.goto 4, 3) := by decide +kernel
theorem dX11_readTaker_182 : decode cX11_readTaker 182 = .ok (.iconst 0, 1) := by decide +kernel
theorem dX11_readTaker_183 : decode cX11_readTaker 183 = .ok (.ireturn, 1) := by decide +kernel
theorem dX11_readTheGoods_0 : decode cX11_readTheGoods 0 = .ok (.aload_n 0, 1) := by decide +kernel
theorem dX11_readTheGoods_1 : decode cX11_readTheGoods 1 = .ok (.iconst 0, 1) := by decide +kernel
theorem dX11_readTheGoods_2 : decode cX11_readTheGoods 2 = .ok (.putfield 122, 3) := by decide +kernel
theorem dX11_readTheGoods_5 : decode cX11_readTheGoods 5 = .ok (.aload_n 0, 1) := by decide +kernel
theorem dX11_readTheGoods_6 : decode cX11_readTheGoods 6 = .ok (.getfield 122, 3) := by decide +kernel
theorem dX11_readTheGoods_9 : decode cX11_readTheGoods 9 = .ok (.iconst 5, 1) := by decide +kernel
theorem dX11_readTheGoods_10 : decode cX11_readTheGoods 10 = .ok (.if_icmp .ge 49, 3) := by decide +kernel
theorem dX11_readTheGoods_13 : decode cX11_readTheGoods 13 = .ok (.aload_n 0, 1) := by decide +kernel
theorem dX11_readTheGoods_14 : decode cX11_readTheGoods 14 = .ok (.getfield 92, 3) := by decide +kernel
theorem dX11_readTheGoods_17 : decode cX11_readTheGoods 17 = .ok (.iload_n 1, 1) := by decide +kernel
theorem dX11_readTheGoods_18 : decode cX11_readTheGoods 18 = .ok (.if_icmp .ge 41, 3) := by decide +kernel
theorem dX11_readTheGoods_21 : decode cX11_readTheGoods 21 = .ok (.aload_n 0, 1) := by decide +kernel
theorem dX11_readTheGoods_22 : decode cX11_readTheGoods 22 = .ok (.iload_n 1, 1) := by decide +kernel
theorem dX11_readTheGoods_23 : decode cX11_readTheGoods 23 = .ok (.iconst 1, 1) := by decide +kernel
theorem dX11_readTheGoods_24 : decode cX11_readTheGoods 24 = .ok (.invokevirtual 144, 3) := by decide +kernel
theorem dX11_readTheGoods_27 : decode cX11_readTheGoods 27 = .ok (.istore_n 2, 1) := by decide +kernel
theorem dX11_readTheGoods_28 : decode cX11_readTheGoods 28 = .ok (.iload_n 2, 1) := by decide +kernel
theorem dX11_readTheGoods_29 : decode cX11_readTheGoods 29 = .ok (.bipush (-9), 2) := by decide +kernel
theorem dX11_readTheGoods_31 : decode cX11_readTheGoods 31 = .ok (.if_icmp .ne 5, 3) := by decide +kernel
theorem dX11_readTheGoods_34 : decode cX11_readTheGoods 34 = .ok (.iconst 0, 1) := by decide +kernel
theorem dX11_readTheGoods_35 : decode cX11_readTheGoods 35 = .ok (.ireturn, 1) := by decide +kernel
theorem dX11_readTheGoods_36 : decode cX11_readTheGoods 36 = .ok (.aload_n 0, 1) := by decide +kernel
theorem dX11_readTheGoods_37 : decode cX11_readTheGoods 37 = .ok (.getfield 46, 3) := by decide +kernel
theorem dX11_readTheGoods_40 : decode cX11_readTheGoods 40 = .ok (.aload_n 0, 1) := by decide +kernel
theorem dX11_readTheGoods_41 : decode cX11_readTheGoods 41 = .ok (.getfield 122, 3) := by decide +kernel
theorem dX11_readTheGoods_44 : decode cX11_readTheGoods 44 = .ok (.iload_n 2, 1) := by decide +kernel
theorem dX11_readTheGoods_45 : decode cX11_readTheGoods 45 = .ok (.iastore, 1) := by decide +kernel
theorem dX11_readTheGoods_46 : decode cX11_readTheGoods 46 = .ok (.aload_n 0, 1) := by decide +kernel
theorem dX11_readTheGoods_47 : decode cX11_readTheGoods 47 = .ok (.dup, 1) := by decide +kernel
theorem dX11_readTheGoods_48 : decode cX11_readTheGoods 48 = .ok (.getfield 122, 3) := by decide +kernel
theorem dX11_readTheGoods_51 : decode cX11_readTheGoods 51 = .ok (.iconst 1, 1) := by decide +kernel
theorem dX11_readTheGoods_52 : decode cX11_readTheGoods 52 = .ok (.iadd, 1) := by decide +kernel
theorem dX11_readTheGoods_53 : decode cX11_readTheGoods 53 = .ok (.putfield 122, 3) := by decide +kernel
theorem dX11_readTheGoods_56 : decode cX11_readTheGoods 56 = .ok (.goto (-51), 3) := by decide +kernel
theorem dX11_readTheGoods_59 : decode cX11_readTheGoods 59 = .ok (.aload_n 0, 1) := by decide +kernel
theorem dX11_readTheGoods_60 : decode cX11_readTheGoods 60 = .ok (.getfield 92, 3) := by decide +kernel
theorem dX11_readTheGoods_63 : decode cX11_readTheGoods 63 = .ok (.iload_n 1, 1) := by decide +kernel
theorem dX11_readTheGoods_64 : decode cX11_readTheGoods 64 = .ok (.if_icmp .ne 7, 3) := by decide +kernel
theorem dX11_readTheGoods_67 : decode cX11_readTheGoods 67 = .ok (.iconst 1, 1) := by decide +kernel
theorem dX11_readTheGoods_68 : decode cX11_readTheGoods 68 = .ok (.goto 4, 3) := by decide +kernel
theorem dX11_readTheGoods_71 : decode cX11_readTheGoods 71 = .ok (.iconst 0, 1) := by decide +kernel
theorem dX11_readTheGoods_72 : decode cX11_readTheGoods 72 = .ok (.ireturn, 1) := by decide +kernel
theorem dX11_ofTaker_0 : decode cX11_ofTaker 0 = .ok (.aload_n 0, 1) := by decide +kernel
theorem dX11_ofTaker_1 : decode cX11_ofTaker 1 = .ok (.iload_n 1, 1) := by decide +kernel
theorem dX11_ofTaker_2 : decode cX11_ofTaker 2 = .ok (.invokevirtual 148, 3) := by decide +kernel
theorem dX11_ofTaker_5 : decode cX11_ofTaker 5 = .ok (.ifCond .ne 5, 3) := by decide +kernel
theorem dX11_ofTaker_8 : decode cX11_ofTaker 8 = .ok (.iconst (-1), 1) := by decide +kernel
theorem dX11_ofTaker_9 : decode cX11_ofTaker 9 = .ok (.ireturn, 1) := by decide +kernel
theorem dX11_ofTaker_10 : decode cX11_ofTaker 10 = .ok (.iload_n 2, 1) := by decide +kernel
theorem dX11_ofTaker_11 : decode cX11_ofTaker 11 = .ok (.ifCond .ne 12, 3) := by decide +kernel
theorem dX11_ofTaker_14 : decode cX11_ofTaker 14 = .ok (.aload_n 0, 1) := by decide +kernel
theorem dX11_ofTaker_15 : decode cX11_ofTaker 15 = .ok (.getfield 22, 3) := by decide +kernel
theorem dX11_ofTaker_18 : decode cX11_ofTaker 18 = .ok (.iload_n 1, 1) := by decide +kernel
theorem dX11_ofTaker_19 : decode cX11_ofTaker 19 = .ok (.iaload, 1) := by decide +kernel
theorem dX11_ofTaker_20 : decode cX11_ofTaker 20 = .ok (.goto 33, 3) := by decide +kernel
theorem dX11_ofTaker_23 : decode cX11_ofTaker 23 = .ok (.iload_n 2, 1) := by decide +kernel
theorem dX11_ofTaker_24 : decode cX11_ofTaker 24 = .ok (.iconst 1, 1) := by decide +kernel
theorem dX11_ofTaker_25 : decode cX11_ofTaker 25 = .ok (.if_icmp .ne 12, 3) := by decide +kernel
theorem dX11_ofTaker_28 : decode cX11_ofTaker 28 = .ok (.aload_n 0, 1) := by decide +kernel
theorem dX11_ofTaker_29 : decode cX11_ofTaker 29 = .ok (.getfield 25, 3) := by decide +kernel
theorem dX11_ofTaker_32 : decode cX11_ofTaker 32 = .ok (.iload_n 1, 1) := by decide +kernel
theorem dX11_ofTaker_33 : decode cX11_ofTaker 33 = .ok (.iaload, 1) := by decide +kernel
theorem dX11_ofTaker_34 : decode cX11_ofTaker 34 = .ok (.goto 19, 3) := by decide +kernel
theorem dX11_ofTaker_37 : decode cX11_ofTaker 37 = .ok (.iload_n 2, 1) := by decide +kernel
theorem dX11_ofTaker_38 : decode cX11_ofTaker 38 = .ok (.iconst 2, 1) := by decide +kernel
theorem dX11_ofTaker_39 : decode cX11_ofTaker 39 = .ok (.if_icmp .ne 12, 3) := by decide +kernel
theorem dX11_ofTaker_42 : decode cX11_ofTaker 42 = .ok (.aload_n 0, 1) := by decide +kernel
theorem dX11_ofTaker_43 : decode cX11_ofTaker 43 = .ok (.getfield 28, 3) := by decide +kernel
theorem dX11_ofTaker_46 : decode cX11_ofTaker 46 = .ok (.iload_n 1, 1) := by decide +kernel
theorem dX11_ofTaker_47 : decode cX11_ofTaker 47 = .ok (.iaload, 1) := by decide +kernel
theorem dX11_ofTaker_48 : decode cX11_ofTaker 48 = .ok (.goto 5, 3) := by decide +kernel
theorem dX11_ofTaker_51 : decode cX11_ofTaker 51 = .ok (.bipush (-2), 2) := by decide +kernel
theorem dX11_ofTaker_53 : decode cX11_ofTaker 53 = .ok (.ireturn, 1) := by decide +kernel
theorem dX11_depth_0 : decode cX11_depth 0 = .ok (.iload_n 1, 1) := by decide +kernel
theorem dX11_depth_1 : decode cX11_depth 1 = .ok (.ifCond .lt 20, 3) := by decide +kernel
theorem dX11_depth_4 : decode cX11_depth 4 = .ok (.iload_n 1, 1) := by decide +kernel
theorem dX11_depth_5 : decode cX11_depth 5 = .ok (.aload_n 0, 1) := by decide +kernel
theorem dX11_depth_6 : decode cX11_depth 6 = .ok (.getfield 125, 3) := by decide +kernel
theorem dX11_depth_9 : decode cX11_depth 9 = .ok (.if_icmp .ge 12, 3) := by decide +kernel
theorem dX11_depth_12 : decode cX11_depth 12 = .ok (.aload_n 0, 1) := by decide +kernel
theorem dX11_depth_13 : decode cX11_depth 13 = .ok (.getfield 31, 3) := by decide +kernel
theorem dX11_depth_16 : decode cX11_depth 16 = .ok (.iload_n 1, 1) := by decide +kernel
theorem dX11_depth_17 : decode cX11_depth 17 = .ok (.iaload, 1) := by decide +kernel
theorem dX11_depth_18 : decode cX11_depth 18 = .ok (.goto 4, 3) := by decide +kernel
theorem dX11_depth_21 : decode cX11_depth 21 = .ok (.iconst (-1), 1) := by decide +kernel
theorem dX11_depth_22 : decode cX11_depth 22 = .ok (.ireturn, 1) := by decide +kernel
theorem dX11_gloom_0 : decode cX11_gloom 0 = .ok (.aload_n 0, 1) := by decide +kernel
theorem dX11_gloom_1 : decode cX11_gloom 1 = .ok (.iload_n 1, 1) := by decide +kernel
theorem dX11_gloom_2 : decode cX11_gloom 2 = .ok (.invokevirtual 151, 3) := by decide +kernel
theorem dX11_gloom_5 : decode cX11_gloom 5 = .ok (.ifCond .eq 12, 3) := by decide +kernel
theorem dX11_gloom_8 : decode cX11_gloom 8 = .ok (.aload_n 0, 1) := by decide +kernel
theorem dX11_gloom_9 : decode cX11_gloom 9 = .ok (.getfield 19, 3) := by decide +kernel
theorem dX11_gloom_12 : decode cX11_gloom 12 = .ok (.iload_n 1, 1) := by decide +kernel
theorem dX11_gloom_13 : decode cX11_gloom 13 = .ok (.iaload, 1) := by decide +kernel
theorem dX11_gloom_14 : decode cX11_gloom 14 = .ok (.goto 4, 3) := by decide +kernel
theorem dX11_gloom_17 : decode cX11_gloom 17 = .ok (.iconst (-1), 1) := by decide +kernel
theorem dX11_gloom_18 : decode cX11_gloom 18 = .ok (.ireturn, 1) := by decide +kernel
theorem dX11_hush_0 : decode cX11_hush 0 = .ok (.aload_n 0, 1) := by decide +kernel
theorem dX11_hush_1 : decode cX11_hush 1 = .ok (.iload_n 1, 1) := by decide +kernel
theorem dX11_hush_2 : decode cX11_hush 2 = .ok (.invokevirtual 151, 3) := by decide +kernel
theorem dX11_hush_5 : decode cX11_hush 5 = .ok (.ifCond .ne 5, 3) := by decide +kernel
theorem dX11_hush_8 : decode cX11_hush 8 = .ok (.iconst (-1), 1) := by decide +kernel
theorem dX11_hush_9 : decode cX11_hush 9 = .ok (.ireturn, 1) := by decide +kernel
theorem dX11_hush_10 : decode cX11_hush 10 = .ok (.iload_n 2, 1) := by decide +kernel
theorem dX11_hush_11 : decode cX11_hush 11 = .ok (.iconst 0, 1) := by decide +kernel
theorem dX11_hush_12 : decode cX11_hush 12 = .ok (.bipush 9, 2) := by decide +kernel
theorem dX11_hush_14 : decode cX11_hush 14 = .ok (.invokestatic 82, 3) := by decide +kernel
theorem dX11_hush_17 : decode cX11_hush 17 = .ok (.ifCond .ne 6, 3) := by decide +kernel
theorem dX11_hush_20 : decode cX11_hush 20 = .ok (.bipush (-2), 2) := by decide +kernel
theorem dX11_hush_22 : decode cX11_hush 22 = .ok (.ireturn, 1) := by decide +kernel
theorem dX11_hush_23 : decode cX11_hush 23 = .ok (.aload_n 0, 1) := by decide +kernel
theorem dX11_hush_24 : decode cX11_hush 24 = .ok (.getfield 19, 3) := by decide +kernel
theorem dX11_hush_27 : decode cX11_hush 27 = .ok (.iload_n 1, 1) := by decide +kernel
theorem dX11_hush_28 : decode cX11_hush 28 = .ok (.iaload, 1) := by decide +kernel
theorem dX11_hush_29 : decode cX11_hush 29 = .ok (.istore_n 3, 1) := by decide +kernel
theorem dX11_hush_30 : decode cX11_hush 30 = .ok (.aload_n 0, 1) := by decide +kernel
theorem dX11_hush_31 : decode cX11_hush 31 = .ok (.getfield 19, 3) := by decide +kernel
theorem dX11_hush_34 : decode cX11_hush 34 = .ok (.iload_n 1, 1) := by decide +kernel
theorem dX11_hush_35 : decode cX11_hush 35 = .ok (.iload_n 2, 1) := by decide +kernel
theorem dX11_hush_36 : decode cX11_hush 36 = .ok (.iastore, 1) := by decide +kernel
theorem dX11_hush_37 : decode cX11_hush 37 = .ok (.iload_n 3, 1) := by decide +kernel
theorem dX11_hush_38 : decode cX11_hush 38 = .ok (.ireturn, 1) := by decide +kernel
theorem dX11_think_0 : decode cX11_think 0 = .ok (.aload_n 0, 1) := by decide +kernel
theorem dX11_think_1 : decode cX11_think 1 = .ok (.iload_n 1, 1) := by decide +kernel
theorem dX11_think_2 : decode cX11_think 2 = .ok (.invokevirtual 148, 3) := by decide +kernel
theorem dX11_think_5 : decode cX11_think 5 = .ok (.ifCond .ne 5, 3) := by decide +kernel
theorem dX11_think_8 : decode cX11_think 8 = .ok (.iconst (-1), 1) := by decide +kernel
theorem dX11_think_9 : decode cX11_think 9 = .ok (.ireturn, 1) := by decide +kernel
theorem dX11_think_10 : decode cX11_think 10 = .ok (.iload_n 2, 1) := by decide +kernel
theorem dX11_think_11 : decode cX11_think 11 = .ok (.iconst 0, 1) := by decide +kernel
theorem dX11_think_12 : decode cX11_think 12 = .ok (.bipush 9, 2) := by decide +kernel
theorem dX11_think_14 : decode cX11_think 14 = .ok (.invokestatic 82, 3) := by decide +kernel
theorem dX11_think_17 : decode cX11_think 17 = .ok (.ifCond .ne 6, 3) := by decide +kernel
theorem dX11_think_20 : decode cX11_think 20 = .ok (.bipush (-2), 2) := by decide +kernel
theorem dX11_think_22 : decode cX11_think 22 = .ok (.ireturn, 1) := by decide +kernel
theorem dX11_think_23 : decode cX11_think 23 = .ok (.aload_n 0, 1) := by decide +kernel
theorem dX11_think_24 : decode cX11_think 24 = .ok (.getfield 28, 3) := by decide +kernel
theorem dX11_think_27 : decode cX11_think 27 = .ok (.iload_n 1, 1) := by decide +kernel
theorem dX11_think_28 : decode cX11_think 28 = .ok (.iaload, 1) := by decide +kernel
theorem dX11_think_29 : decode cX11_think 29 = .ok (.istore_n 3, 1) := by decide +kernel
theorem dX11_think_30 : decode cX11_think 30 = .ok (.aload_n 0, 1) := by decide +kernel
theorem dX11_think_31 : decode cX11_think 31 = .ok (.getfield 28, 3) := by decide +kernel
theorem dX11_think_34 : decode cX11_think 34 = .ok (.iload_n 1, 1) := by decide +kernel
theorem dX11_think_35 : decode cX11_think 35 = .ok (.iload_n 2, 1) := by decide +kernel
theorem dX11_think_36 : decode cX11_think 36 = .ok (.iastore, 1) := by decide +kernel
theorem dX11_think_37 : decode cX11_think 37 = .ok (.iload_n 3, 1) := by decide +kernel
theorem dX11_think_38 : decode cX11_think 38 = .ok (.ireturn, 1) := by decide +kernel
theorem dX11_brace_0 : decode cX11_brace 0 = .ok (.aload_n 0, 1) := by decide +kernel
theorem dX11_brace_1 : decode cX11_brace 1 = .ok (.iload_n 1, 1) := by decide +kernel
theorem dX11_brace_2 : decode cX11_brace 2 = .ok (.invokevirtual 148, 3) := by decide +kernel
theorem dX11_brace_5 : decode cX11_brace 5 = .ok (.ifCond .ne 5, 3) := by decide +kernel
theorem dX11_brace_8 : decode cX11_brace 8 = .ok (.iconst (-1), 1) := by decide +kernel
theorem dX11_brace_9 : decode cX11_brace 9 = .ok (.ireturn, 1) := by decide +kernel
theorem dX11_brace_10 : decode cX11_brace 10 = .ok (.iload_n 2, 1) := by decide +kernel
theorem dX11_brace_11 : decode cX11_brace 11 = .ok (.iconst 0, 1) := by decide +kernel
theorem dX11_brace_12 : decode cX11_brace 12 = .ok (.bipush 99, 2) := by decide +kernel
theorem dX11_brace_14 : decode cX11_brace 14 = .ok (.invokestatic 82, 3) := by decide +kernel
theorem dX11_brace_17 : decode cX11_brace 17 = .ok (.ifCond .ne 6, 3) := by decide +kernel
theorem dX11_brace_20 : decode cX11_brace 20 = .ok (.bipush (-2), 2) := by decide +kernel
theorem dX11_brace_22 : decode cX11_brace 22 = .ok (.ireturn, 1) := by decide +kernel
theorem dX11_brace_23 : decode cX11_brace 23 = .ok (.aload_n 0, 1) := by decide +kernel
theorem dX11_brace_24 : decode cX11_brace 24 = .ok (.getfield 25, 3) := by decide +kernel
theorem dX11_brace_27 : decode cX11_brace 27 = .ok (.iload_n 1, 1) := by decide +kernel
theorem dX11_brace_28 : decode cX11_brace 28 = .ok (.iaload, 1) := by decide +kernel
theorem dX11_brace_29 : decode cX11_brace 29 = .ok (.istore_n 3, 1) := by decide +kernel
theorem dX11_brace_30 : decode cX11_brace 30 = .ok (.aload_n 0, 1) := by decide +kernel
theorem dX11_brace_31 : decode cX11_brace 31 = .ok (.getfield 25, 3) := by decide +kernel
theorem dX11_brace_34 : decode cX11_brace 34 = .ok (.iload_n 1, 1) := by decide +kernel
theorem dX11_brace_35 : decode cX11_brace 35 = .ok (.iload_n 2, 1) := by decide +kernel
theorem dX11_brace_36 : decode cX11_brace 36 = .ok (.iastore, 1) := by decide +kernel
theorem dX11_brace_37 : decode cX11_brace 37 = .ok (.iload_n 3, 1) := by decide +kernel
theorem dX11_brace_38 : decode cX11_brace 38 = .ok (.ireturn, 1) := by decide +kernel
theorem dX11_drainOf_0 : decode cX11_drainOf 0 = .ok (.iload_n 2, 1) := by decide +kernel
theorem dX11_drainOf_1 : decode cX11_drainOf 1 = .ok (.aload_n 0, 1) := by decide +kernel
theorem dX11_drainOf_2 : decode cX11_drainOf 2 = .ok (.getfield 89, 3) := by decide +kernel
theorem dX11_drainOf_5 : decode cX11_drainOf 5 = .ok (.irem, 1) := by decide +kernel
theorem dX11_drainOf_6 : decode cX11_drainOf 6 = .ok (.istore_n 3, 1) := by decide +kernel
theorem dX11_drainOf_7 : decode cX11_drainOf 7 = .ok (.aload_n 0, 1) := by decide +kernel
theorem dX11_drainOf_8 : decode cX11_drainOf 8 = .ok (.getfield 154, 3) := by decide +kernel
theorem dX11_drainOf_11 : decode cX11_drainOf 11 = .ok (.iload_n 3, 1) := by decide +kernel
theorem dX11_drainOf_12 : decode cX11_drainOf 12 = .ok (.ishr, 1) := by decide +kernel
theorem dX11_drainOf_13 : decode cX11_drainOf 13 = .ok (.iconst 1, 1) := by decide +kernel
theorem dX11_drainOf_14 : decode cX11_drainOf 14 = .ok (.iand, 1) := by decide +kernel
theorem dX11_drainOf_15 : decode cX11_drainOf 15 = .ok (.iconst 1, 1) := by decide +kernel
theorem dX11_drainOf_16 : decode cX11_drainOf 16 = .ok (.if_icmp .ne 7, 3) := by decide +kernel
theorem dX11_drainOf_19 : decode cX11_drainOf 19 = .ok (.iconst 0, 1) := by decide +kernel
theorem dX11_drainOf_20 : decode cX11_drainOf 20 = .ok (.goto 9, 3) := by decide +kernel
theorem dX11_drainOf_23 : decode cX11_drainOf 23 = .ok (.aload_n 0, 1) := by decide +kernel
theorem dX11_drainOf_24 : decode cX11_drainOf 24 = .ok (.getfield 19, 3) := by decide +kernel
theorem dX11_drainOf_27 : decode cX11_drainOf 27 = .ok (.iload_n 3, 1) := by decide +kernel
theorem dX11_drainOf_28 : decode cX11_drainOf 28 = .ok (.iaload, 1) := by decide +kernel
theorem dX11_drainOf_29 : decode cX11_drainOf 29 = .ok (.aload_n 0, 1) := by decide +kernel
theorem dX11_drainOf_30 : decode cX11_drainOf 30 = .ok (.getfield 28, 3) := by decide +kernel
theorem dX11_drainOf_33 : decode cX11_drainOf 33 = .ok (.iload_n 1, 1) := by decide +kernel
theorem dX11_drainOf_34 : decode cX11_drainOf 34 = .ok (.iaload, 1) := by decide +kernel
theorem dX11_drainOf_35 : decode cX11_drainOf 35 = .ok (.iadd, 1) := by decide +kernel
theorem dX11_drainOf_36 : decode cX11_drainOf 36 = .ok (.istore 4, 2) := by decide +kernel
theorem dX11_drainOf_38 : decode cX11_drainOf 38 = .ok (.aload_n 0, 1) := by decide +kernel
theorem dX11_drainOf_39 : decode cX11_drainOf 39 = .ok (.getfield 22, 3) := by decide +kernel
theorem dX11_drainOf_42 : decode cX11_drainOf 42 = .ok (.iload_n 1, 1) := by decide +kernel
theorem dX11_drainOf_43 : decode cX11_drainOf 43 = .ok (.iaload, 1) := by decide +kernel
theorem dX11_drainOf_44 : decode cX11_drainOf 44 = .ok (.iconst 1, 1) := by decide +kernel
theorem dX11_drainOf_45 : decode cX11_drainOf 45 = .ok (.if_icmp .ne 17, 3) := by decide +kernel
theorem dX11_drainOf_48 : decode cX11_drainOf 48 = .ok (.iload 4, 2) := by decide +kernel
theorem dX11_drainOf_50 : decode cX11_drainOf 50 = .ok (.ifCond .le 10, 3) := by decide +kernel
theorem dX11_drainOf_53 : decode cX11_drainOf 53 = .ok (.iload 4, 2) := by decide +kernel
theorem dX11_drainOf_55 : decode cX11_drainOf 55 = .ok (.iconst 1, 1) := by decide +kernel
theorem dX11_drainOf_56 : decode cX11_drainOf 56 = .ok (.isub, 1) := by decide +kernel
theorem dX11_drainOf_57 : decode cX11_drainOf 57 = .ok (.goto 4, 3) := by decide +kernel
theorem dX11_drainOf_60 : decode cX11_drainOf 60 = .ok (.iconst 0, 1) := by decide +kernel
theorem dX11_drainOf_61 : decode cX11_drainOf 61 = .ok (.ireturn, 1) := by decide +kernel
theorem dX11_drainOf_62 : decode cX11_drainOf 62 = .ok (.aload_n 0, 1) := by decide +kernel
theorem dX11_drainOf_63 : decode cX11_drainOf 63 = .ok (.getfield 22, 3) := by decide +kernel
theorem dX11_drainOf_66 : decode cX11_drainOf 66 = .ok (.iload_n 1, 1) := by decide +kernel
theorem dX11_drainOf_67 : decode cX11_drainOf 67 = .ok (.iaload, 1) := by decide +kernel
theorem dX11_drainOf_68 : decode cX11_drainOf 68 = .ok (.ifCond .ne 8, 3) := by decide +kernel
theorem dX11_drainOf_71 : decode cX11_drainOf 71 = .ok (.iload 4, 2) := by decide +kernel
theorem dX11_drainOf_73 : decode cX11_drainOf 73 = .ok (.goto 7, 3) := by decide +kernel
theorem dX11_drainOf_76 : decode cX11_drainOf 76 = .ok (.iload 4, 2) := by decide +kernel
theorem dX11_drainOf_78 : decode cX11_drainOf 78 = .ok (.iconst 2, 1) := by decide +kernel
theorem dX11_drainOf_79 : decode cX11_drainOf 79 = .ok (.idiv, 1) := by decide +kernel
theorem dX11_drainOf_80 : decode cX11_drainOf 80 = .ok (.ireturn, 1) := by decide +kernel
theorem dX11_drain_0 : decode cX11_drain 0 = .ok (.aload_n 0, 1) := by decide +kernel
theorem dX11_drain_1 : decode cX11_drain 1 = .ok (.iload_n 1, 1) := by decide +kernel
theorem dX11_drain_2 : decode cX11_drain 2 = .ok (.invokevirtual 148, 3) := by decide +kernel
theorem dX11_drain_5 : decode cX11_drain 5 = .ok (.ifCond .ne 5, 3) := by decide +kernel
theorem dX11_drain_8 : decode cX11_drain 8 = .ok (.iconst (-1), 1) := by decide +kernel
theorem dX11_drain_9 : decode cX11_drain 9 = .ok (.ireturn, 1) := by decide +kernel
theorem dX11_drain_10 : decode cX11_drain 10 = .ok (.iload_n 2, 1) := by decide +kernel
theorem dX11_drain_11 : decode cX11_drain 11 = .ok (.iconst 0, 1) := by decide +kernel
theorem dX11_drain_12 : decode cX11_drain 12 = .ok (.bipush 99, 2) := by decide +kernel
theorem dX11_drain_14 : decode cX11_drain 14 = .ok (.invokestatic 82, 3) := by decide +kernel
theorem dX11_drain_17 : decode cX11_drain 17 = .ok (.ifCond .eq 12, 3) := by decide +kernel
theorem dX11_drain_20 : decode cX11_drain 20 = .ok (.aload_n 0, 1) := by decide +kernel
theorem dX11_drain_21 : decode cX11_drain 21 = .ok (.iload_n 1, 1) := by decide +kernel
theorem dX11_drain_22 : decode cX11_drain 22 = .ok (.iload_n 2, 1) := by decide +kernel
theorem dX11_drain_23 : decode cX11_drain 23 = .ok (.invokevirtual 157, 3) := by decide +kernel
theorem dX11_drain_26 : decode cX11_drain 26 = .ok (.goto 5, 3) := by decide +kernel
theorem dX11_drain_29 : decode cX11_drain 29 = .ok (.bipush (-2), 2) := by decide +kernel
theorem dX11_drain_31 : decode cX11_drain 31 = .ok (.ireturn, 1) := by decide +kernel
theorem dX11_holdsBy_0 : decode cX11_holdsBy 0 = .ok (.aload_n 0, 1) := by decide +kernel
theorem dX11_holdsBy_1 : decode cX11_holdsBy 1 = .ok (.getfield 25, 3) := by decide +kernel
theorem dX11_holdsBy_4 : decode cX11_holdsBy 4 = .ok (.iload_n 1, 1) := by decide +kernel
theorem dX11_holdsBy_5 : decode cX11_holdsBy 5 = .ok (.iaload, 1) := by decide +kernel
theorem dX11_holdsBy_6 : decode cX11_holdsBy 6 = .ok (.istore 4, 2) := by decide +kernel
theorem dX11_holdsBy_8 : decode cX11_holdsBy 8 = .ok (.iconst 0, 1) := by decide +kernel
theorem dX11_holdsBy_9 : decode cX11_holdsBy 9 = .ok (.istore 5, 2) := by decide +kernel
theorem dX11_holdsBy_11 : decode cX11_holdsBy 11 = .ok (.iload 5, 2) := by decide +kernel
theorem dX11_holdsBy_13 : decode cX11_holdsBy 13 = .ok (.bipush 40, 2) := by decide +kernel
theorem dX11_holdsBy_15 : decode cX11_holdsBy 15 = .ok (.if_icmp .ge 41, 3) := by decide +kernel
theorem dX11_holdsBy_18 : decode cX11_holdsBy 18 = .ok (.aload_n 0, 1) := by decide +kernel
theorem dX11_holdsBy_19 : decode cX11_holdsBy 19 = .ok (.iload_n 1, 1) := by decide +kernel
theorem dX11_holdsBy_20 : decode cX11_holdsBy 20 = .ok (.iload_n 2, 1) := by decide +kernel
theorem dX11_holdsBy_21 : decode cX11_holdsBy 21 = .ok (.iload 5, 2) := by decide +kernel
theorem dX11_holdsBy_23 : decode cX11_holdsBy 23 = .ok (.iadd, 1) := by decide +kernel
theorem dX11_holdsBy_24 : decode cX11_holdsBy 24 = .ok (.invokevirtual 157, 3) := by decide +kernel
theorem dX11_holdsBy_27 : decode cX11_holdsBy 27 = .ok (.iload_n 3, 1) := by decide +kernel
theorem dX11_holdsBy_28 : decode cX11_holdsBy 28 = .ok (.idiv, 1) := by decide +kernel
theorem dX11_holdsBy_29 : decode cX11_holdsBy 29 = .ok (.iload 4, 2) := by decide +kernel
theorem dX11_holdsBy_31 : decode cX11_holdsBy 31 = .ok (.if_icmp .gt 25, 3) := by decide +kernel
theorem dX11_holdsBy_34 : decode cX11_holdsBy 34 = .ok (.iload 4, 2) := by decide +kernel
theorem dX11_holdsBy_36 : decode cX11_holdsBy 36 = .ok (.aload_n 0, 1) := by decide +kernel
theorem dX11_holdsBy_37 : decode cX11_holdsBy 37 = .ok (.iload_n 1, 1) := by decide +kernel
theorem dX11_holdsBy_38 : decode cX11_holdsBy 38 = .ok (.iload_n 2, 1) := by decide +kernel
theorem dX11_holdsBy_39 : decode cX11_holdsBy 39 = .ok (.iload 5, 2) := by decide +kernel
theorem dX11_holdsBy_41 : decode cX11_holdsBy 41 = .ok (.iadd, 1) := by decide +kernel
theorem dX11_holdsBy_42 : decode cX11_holdsBy 42 = .ok (.invokevirtual 157, 3) := by decide +kernel
theorem dX11_holdsBy_45 : decode cX11_holdsBy 45 = .ok (.iload_n 3, 1) := by decide +kernel
theorem dX11_holdsBy_46 : decode cX11_holdsBy 46 = .ok (.idiv, 1) := by decide +kernel
theorem dX11_holdsBy_47 : decode cX11_holdsBy 47 = .ok (.isub, 1) := by decide +kernel
theorem dX11_holdsBy_48 : decode cX11_holdsBy 48 = .ok (.istore 4, 2) := by decide +kernel
theorem dX11_holdsBy_50 : decode cX11_holdsBy 50 = .ok (.iinc 5 1, 3) := by decide +kernel
theorem dX11_holdsBy_53 : decode cX11_holdsBy 53 = .ok (.goto (-42), 3) := by decide +kernel
theorem dX11_holdsBy_56 : decode cX11_holdsBy 56 = .ok (.iload 5, 2) := by decide +kernel
theorem dX11_holdsBy_58 : decode cX11_holdsBy 58 = .ok (.ireturn, 1) := by decide +kernel
theorem dX11_isMinute_0 : decode cX11_isMinute 0 = .ok (.iload_n 0, 1) := by decide +kernel
theorem dX11_isMinute_1 : decode cX11_isMinute 1 = .ok (.iconst 0, 1) := by decide +kernel
theorem dX11_isMinute_2 : decode cX11_isMinute 2 = .ok (.bipush 59, 2) := by decide +kernel
theorem dX11_isMinute_4 : decode cX11_isMinute 4 = .ok (.invokestatic 82, 3) := by decide +kernel
theorem dX11_isMinute_7 : decode cX11_isMinute 7 = .ok (.ireturn, 1) := by decide +kernel
theorem dX11_holds_0 : decode cX11_holds 0 = .ok (.aload_n 0, 1) := by decide +kernel
theorem dX11_holds_1 : decode cX11_holds 1 = .ok (.iload_n 1, 1) := by decide +kernel
theorem dX11_holds_2 : decode cX11_holds 2 = .ok (.invokevirtual 148, 3) := by decide +kernel
theorem dX11_holds_5 : decode cX11_holds 5 = .ok (.ifCond .ne 5, 3) := by decide +kernel
theorem dX11_holds_8 : decode cX11_holds 8 = .ok (.iconst (-1), 1) := by decide +kernel
theorem dX11_holds_9 : decode cX11_holds 9 = .ok (.ireturn, 1) := by decide +kernel
theorem dX11_holds_10 : decode cX11_holds 10 = .ok (.iload_n 2, 1) := by decide +kernel
theorem dX11_holds_11 : decode cX11_holds 11 = .ok (.invokestatic 160, 3) := by decide +kernel
theorem dX11_holds_14 : decode cX11_holds 14 = .ok (.ifCond .eq 13, 3) := by decide +kernel
theorem dX11_holds_17 : decode cX11_holds 17 = .ok (.aload_n 0, 1) := by decide +kernel
theorem dX11_holds_18 : decode cX11_holds 18 = .ok (.iload_n 1, 1) := by decide +kernel
theorem dX11_holds_19 : decode cX11_holds 19 = .ok (.iload_n 2, 1) := by decide +kernel
theorem dX11_holds_20 : decode cX11_holds 20 = .ok (.iconst 1, 1) := by decide +kernel
theorem dX11_holds_21 : decode cX11_holds 21 = .ok (.invokevirtual 163, 3) := by decide +kernel
theorem dX11_holds_24 : decode cX11_holds 24 = .ok (.goto 5, 3) := by decide +kernel
theorem dX11_holds_27 : decode cX11_holds 27 = .ok (.bipush (-2), 2) := by decide +kernel
theorem dX11_holds_29 : decode cX11_holds 29 = .ok (.ireturn, 1) := by decide +kernel
theorem dX11_best_0 : decode cX11_best 0 = .ok (.aload_n 0, 1) := by decide +kernel
theorem dX11_best_1 : decode cX11_best 1 = .ok (.iload_n 1, 1) := by decide +kernel
theorem dX11_best_2 : decode cX11_best 2 = .ok (.invokevirtual 148, 3) := by decide +kernel
theorem dX11_best_5 : decode cX11_best 5 = .ok (.ifCond .ne 5, 3) := by decide +kernel
theorem dX11_best_8 : decode cX11_best 8 = .ok (.iconst (-1), 1) := by decide +kernel
theorem dX11_best_9 : decode cX11_best 9 = .ok (.ireturn, 1) := by decide +kernel
theorem dX11_best_10 : decode cX11_best 10 = .ok (.iload_n 2, 1) := by decide +kernel
theorem dX11_best_11 : decode cX11_best 11 = .ok (.iconst 0, 1) := by decide +kernel
theorem dX11_best_12 : decode cX11_best 12 = .ok (.iconst 1, 1) := by decide +kernel
theorem dX11_best_13 : decode cX11_best 13 = .ok (.invokestatic 82, 3) := by decide +kernel
theorem dX11_best_16 : decode cX11_best 16 = .ok (.ifCond .ne 6, 3) := by decide +kernel
theorem dX11_best_19 : decode cX11_best 19 = .ok (.bipush (-2), 2) := by decide +kernel
theorem dX11_best_21 : decode cX11_best 21 = .ok (.ireturn, 1) := by decide +kernel
theorem dX11_best_22 : decode cX11_best 22 = .ok (.iconst 0, 1) := by decide +kernel
theorem dX11_best_23 : decode cX11_best 23 = .ok (.istore_n 3, 1) := by decide +kernel
theorem dX11_best_24 : decode cX11_best 24 = .ok (.iconst 1, 1) := by decide +kernel
theorem dX11_best_25 : decode cX11_best 25 = .ok (.istore 4, 2) := by decide +kernel
theorem dX11_best_27 : decode cX11_best 27 = .ok (.iload 4, 2) := by decide +kernel
theorem dX11_best_29 : decode cX11_best 29 = .ok (.aload_n 0, 1) := by decide +kernel
theorem dX11_best_30 : decode cX11_best 30 = .ok (.getfield 89, 3) := by decide +kernel
theorem dX11_best_33 : decode cX11_best 33 = .ok (.if_icmp .ge 34, 3) := by decide +kernel
theorem dX11_best_36 : decode cX11_best 36 = .ok (.aload_n 0, 1) := by decide +kernel
theorem dX11_best_37 : decode cX11_best 37 = .ok (.iload_n 1, 1) := by decide +kernel
theorem dX11_best_38 : decode cX11_best 38 = .ok (.iload 4, 2) := by decide +kernel
theorem dX11_best_40 : decode cX11_best 40 = .ok (.iconst 1, 1) := by decide +kernel
theorem dX11_best_41 : decode cX11_best 41 = .ok (.invokevirtual 163, 3) := by decide +kernel
theorem dX11_best_44 : decode cX11_best 44 = .ok (.aload_n 0, 1) := by decide +kernel
theorem dX11_best_45 : decode cX11_best 45 = .ok (.iload_n 1, 1) := by decide +kernel
theorem dX11_best_46 : decode cX11_best 46 = .ok (.iload_n 3, 1) := by decide +kernel
theorem dX11_best_47 : decode cX11_best 47 = .ok (.iconst 1, 1) := by decide +kernel
theorem dX11_best_48 : decode cX11_best 48 = .ok (.invokevirtual 163, 3) := by decide +kernel
theorem dX11_best_51 : decode cX11_best 51 = .ok (.if_icmp .le 8, 3) := by decide +kernel
theorem dX11_best_54 : decode cX11_best 54 = .ok (.iload 4, 2) := by decide +kernel
theorem dX11_best_56 : decode cX11_best 56 = .ok (.goto 4, 3) := by decide +kernel
theorem dX11_best_59 : decode cX11_best 59 = .ok (.iload_n 3, 1) := by decide +kernel
theorem dX11_best_60 : decode cX11_best 60 = .ok (.istore_n 3, 1) := by decide +kernel
theorem dX11_best_61 : decode cX11_best 61 = .ok (.iinc 4 1, 3) := by decide +kernel
theorem dX11_best_64 : decode cX11_best 64 = .ok (.goto (-37), 3) := by decide +kernel
theorem dX11_best_67 : decode cX11_best 67 = .ok (.iload_n 2, 1) := by decide +kernel
theorem dX11_best_68 : decode cX11_best 68 = .ok (.ifCond .ne 7, 3) := by decide +kernel
theorem dX11_best_71 : decode cX11_best 71 = .ok (.iload_n 3, 1) := by decide +kernel
theorem dX11_best_72 : decode cX11_best 72 = .ok (.goto 10, 3) := by decide +kernel
theorem dX11_best_75 : decode cX11_best 75 = .ok (.aload_n 0, 1) := by decide +kernel
theorem dX11_best_76 : decode cX11_best 76 = .ok (.iload_n 1, 1) := by decide +kernel
theorem dX11_best_77 : decode cX11_best 77 = .ok (.iload_n 3, 1) := by decide +kernel
theorem dX11_best_78 : decode cX11_best 78 = .ok (.iconst 1, 1) := by decide +kernel
theorem dX11_best_79 : decode cX11_best 79 = .ok (.invokevirtual 163, 3) := by decide +kernel
theorem dX11_best_82 : decode cX11_best 82 = .ok (.ireturn, 1) := by decide +kernel
theorem dX11_bothHold_0 : decode cX11_bothHold 0 = .ok (.aload_n 0, 1) := by decide +kernel
theorem dX11_bothHold_1 : decode cX11_bothHold 1 = .ok (.iload_n 1, 1) := by decide +kernel
theorem dX11_bothHold_2 : decode cX11_bothHold 2 = .ok (.iload_n 3, 1) := by decide +kernel
theorem dX11_bothHold_3 : decode cX11_bothHold 3 = .ok (.iconst 2, 1) := by decide +kernel
theorem dX11_bothHold_4 : decode cX11_bothHold 4 = .ok (.invokevirtual 163, 3) := by decide +kernel
theorem dX11_bothHold_7 : decode cX11_bothHold 7 = .ok (.istore 4, 2) := by decide +kernel
theorem dX11_bothHold_9 : decode cX11_bothHold 9 = .ok (.aload_n 0, 1) := by decide +kernel
theorem dX11_bothHold_10 : decode cX11_bothHold 10 = .ok (.iload_n 2, 1) := by decide +kernel
theorem dX11_bothHold_11 : decode cX11_bothHold 11 = .ok (.iload_n 3, 1) := by decide +kernel
theorem dX11_bothHold_12 : decode cX11_bothHold 12 = .ok (.iconst 2, 1) := by decide +kernel
theorem dX11_bothHold_13 : decode cX11_bothHold 13 = .ok (.invokevirtual 163, 3) := by decide +kernel
theorem dX11_bothHold_16 : decode cX11_bothHold 16 = .ok (.istore 5, 2) := by decide +kernel
theorem dX11_bothHold_18 : decode cX11_bothHold 18 = .ok (.iload 4, 2) := by decide +kernel
theorem dX11_bothHold_20 : decode cX11_bothHold 20 = .ok (.iload 5, 2) := by decide +kernel
theorem dX11_bothHold_22 : decode cX11_bothHold 22 = .ok (.if_icmp .ge 8, 3) := by decide +kernel
theorem dX11_bothHold_25 : decode cX11_bothHold 25 = .ok (.iload 4, 2) := by decide +kernel
theorem dX11_bothHold_27 : decode cX11_bothHold 27 = .ok (.goto 5, 3) := by decide +kernel
theorem dX11_bothHold_30 : decode cX11_bothHold 30 = .ok (.iload 5, 2) := by decide +kernel
theorem dX11_bothHold_32 : decode cX11_bothHold 32 = .ok (.ireturn, 1) := by decide +kernel
theorem dX11_together_0 : decode cX11_together 0 = .ok (.aload_n 0, 1) := by decide +kernel
theorem dX11_together_1 : decode cX11_together 1 = .ok (.iload_n 1, 1) := by decide +kernel
theorem dX11_together_2 : decode cX11_together 2 = .ok (.invokevirtual 148, 3) := by decide +kernel
theorem dX11_together_5 : decode cX11_together 5 = .ok (.ifCond .eq 16, 3) := by decide +kernel
theorem dX11_together_8 : decode cX11_together 8 = .ok (.aload_n 0, 1) := by decide +kernel
theorem dX11_together_9 : decode cX11_together 9 = .ok (.iload_n 2, 1) := by decide +kernel
theorem dX11_together_10 : decode cX11_together 10 = .ok (.invokevirtual 148, 3) := by decide +kernel
theorem dX11_together_13 : decode cX11_together 13 = .ok (.ifCond .eq 8, 3) := by decide +kernel
theorem dX11_together_16 : decode cX11_together 16 = .ok (.iload_n 1, 1) := by decide +kernel
theorem dX11_together_17 : decode cX11_together 17 = .ok (.iload_n 2, 1) := by decide +kernel
theorem dX11_together_18 : decode cX11_together 18 = .ok (.if_icmp .ne 5, 3) := by decide +kernel
theorem dX11_together_21 : decode cX11_together 21 = .ok (.iconst (-1), 1) := by decide +kernel
theorem dX11_together_22 : decode cX11_together 22 = .ok (.ireturn, 1) := by decide +kernel
theorem dX11_together_23 : decode cX11_together 23 = .ok (.iload_n 3, 1) := by decide +kernel
theorem dX11_together_24 : decode cX11_together 24 = .ok (.invokestatic 160, 3) := by decide +kernel
theorem dX11_together_27 : decode cX11_together 27 = .ok (.ifCond .eq 13, 3) := by decide +kernel
theorem dX11_together_30 : decode cX11_together 30 = .ok (.aload_n 0, 1) := by decide +kernel
theorem dX11_together_31 : decode cX11_together 31 = .ok (.iload_n 1, 1) := by decide +kernel
theorem dX11_together_32 : decode cX11_together 32 = .ok (.iload_n 2, 1) := by decide +kernel
theorem dX11_together_33 : decode cX11_together 33 = .ok (.iload_n 3, 1) := by decide +kernel
theorem dX11_together_34 : decode cX11_together 34 = .ok (.invokevirtual 167, 3) := by decide +kernel
theorem dX11_together_37 : decode cX11_together 37 = .ok (.goto 5, 3) := by decide +kernel
theorem dX11_together_40 : decode cX11_together 40 = .ok (.bipush (-2), 2) := by decide +kernel
theorem dX11_together_42 : decode cX11_together 42 = .ok (.ireturn, 1) := by decide +kernel
theorem dX11_friend_0 : decode cX11_friend 0 = .ok (.aload_n 0, 1) := by decide +kernel
theorem dX11_friend_1 : decode cX11_friend 1 = .ok (.iload_n 1, 1) := by decide +kernel
theorem dX11_friend_2 : decode cX11_friend 2 = .ok (.invokevirtual 148, 3) := by decide +kernel
theorem dX11_friend_5 : decode cX11_friend 5 = .ok (.ifCond .ne 5, 3) := by decide +kernel
theorem dX11_friend_8 : decode cX11_friend 8 = .ok (.iconst (-1), 1) := by decide +kernel
theorem dX11_friend_9 : decode cX11_friend 9 = .ok (.ireturn, 1) := by decide +kernel
theorem dX11_friend_10 : decode cX11_friend 10 = .ok (.iload_n 2, 1) := by decide +kernel
theorem dX11_friend_11 : decode cX11_friend 11 = .ok (.invokestatic 160, 3) := by decide +kernel
theorem dX11_friend_14 : decode cX11_friend 14 = .ok (.ifCond .ne 6, 3) := by decide +kernel
theorem dX11_friend_17 : decode cX11_friend 17 = .ok (.bipush (-2), 2) := by decide +kernel
theorem dX11_friend_19 : decode cX11_friend 19 = .ok (.ireturn, 1) := by decide +kernel
theorem dX11_friend_20 : decode cX11_friend 20 = .ok (.bipush (-9), 2) := by decide +kernel
theorem dX11_friend_22 : decode cX11_friend 22 = .ok (.istore_n 3, 1) := by decide +kernel
theorem dX11_friend_23 : decode cX11_friend 23 = .ok (.iconst 0, 1) := by decide +kernel
theorem dX11_friend_24 : decode cX11_friend 24 = .ok (.istore 4, 2) := by decide +kernel
theorem dX11_friend_26 : decode cX11_friend 26 = .ok (.iload 4, 2) := by decide +kernel
theorem dX11_friend_28 : decode cX11_friend 28 = .ok (.aload_n 0, 1) := by decide +kernel
theorem dX11_friend_29 : decode cX11_friend 29 = .ok (.getfield 86, 3) := by decide +kernel
theorem dX11_friend_32 : decode cX11_friend 32 = .ok (.if_icmp .ge 42, 3) := by decide +kernel
theorem dX11_friend_35 : decode cX11_friend 35 = .ok (.iload 4, 2) := by decide +kernel
theorem dX11_friend_37 : decode cX11_friend 37 = .ok (.iload_n 1, 1) := by decide +kernel
theorem dX11_friend_38 : decode cX11_friend 38 = .ok (.if_icmp .eq 30, 3) := by decide +kernel
theorem dX11_friend_41 : decode cX11_friend 41 = .ok (.iload_n 3, 1) := by decide +kernel
theorem dX11_friend_42 : decode cX11_friend 42 = .ok (.bipush (-9), 2) := by decide +kernel
theorem dX11_friend_44 : decode cX11_friend 44 = .ok (.if_icmp .eq 21, 3) := by decide +kernel
theorem dX11_friend_47 : decode cX11_friend 47 = .ok (.aload_n 0, 1) := by decide +kernel
theorem dX11_friend_48 : decode cX11_friend 48 = .ok (.iload_n 1, 1) := by decide +kernel
theorem dX11_friend_49 : decode cX11_friend 49 = .ok (.iload 4, 2) := by decide +kernel
theorem dX11_friend_51 : decode cX11_friend 51 = .ok (.iload_n 2, 1) := by decide +kernel
theorem dX11_friend_52 : decode cX11_friend 52 = .ok (.invokevirtual 167, 3) := by decide +kernel
theorem dX11_friend_55 : decode cX11_friend 55 = .ok (.aload_n 0, 1) := by decide +kernel
theorem dX11_friend_56 : decode cX11_friend 56 = .ok (.iload_n 1, 1) := by decide +kernel
theorem dX11_friend_57 : decode cX11_friend 57 = .ok (.iload_n 3, 1) := by decide +kernel
theorem dX11_friend_58 : decode cX11_friend 58 = .ok (.iload_n 2, 1) := by decide +kernel
theorem dX11_friend_59 : decode cX11_friend 59 = .ok (.invokevirtual 167, 3) := by decide +kernel
theorem dX11_friend_62 : decode cX11_friend 62 = .ok (.if_icmp .le 6, 3) := by decide +kernel
theorem dX11_friend_65 : decode cX11_friend 65 = .ok (.iload 4, 2) := by decide +kernel
theorem dX11_friend_67 : decode cX11_friend 67 = .ok (.istore_n 3, 1) := by decide +kernel
theorem dX11_friend_68 : decode cX11_friend 68 = .ok (.iinc 4 1, 3) := by decide +kernel
theorem dX11_friend_71 : decode cX11_friend 71 = .ok (.goto (-45), 3) := by decide +kernel
theorem dX11_friend_74 : decode cX11_friend 74 = .ok (.iload_n 3, 1) := by decide +kernel
theorem dX11_friend_75 : decode cX11_friend 75 = .ok (.ireturn, 1) := by decide +kernel
theorem dX11_goNight_0 : decode cX11_goNight 0 = .ok (.aload_n 0, 1) := by decide +kernel
theorem dX11_goNight_1 : decode cX11_goNight 1 = .ok (.iconst 0, 1) := by decide +kernel
theorem dX11_goNight_2 : decode cX11_goNight 2 = .ok (.putfield 170, 3) := by decide +kernel
theorem dX11_goNight_5 : decode cX11_goNight 5 = .ok (.aload_n 0, 1) := by decide +kernel
theorem dX11_goNight_6 : decode cX11_goNight 6 = .ok (.bipush (-9), 2) := by decide +kernel
theorem dX11_goNight_8 : decode cX11_goNight 8 = .ok (.putfield 173, 3) := by decide +kernel
theorem dX11_goNight_11 : decode cX11_goNight 11 = .ok (.iconst 0, 1) := by decide +kernel
theorem dX11_goNight_12 : decode cX11_goNight 12 = .ok (.istore_n 3, 1) := by decide +kernel
theorem dX11_goNight_13 : decode cX11_goNight 13 = .ok (.iload_n 3, 1) := by decide +kernel
theorem dX11_goNight_14 : decode cX11_goNight 14 = .ok (.iconst 5, 1) := by decide +kernel
theorem dX11_goNight_15 : decode cX11_goNight 15 = .ok (.if_icmp .ge 23, 3) := by decide +kernel
theorem dX11_goNight_18 : decode cX11_goNight 18 = .ok (.aload_n 0, 1) := by decide +kernel
theorem dX11_goNight_19 : decode cX11_goNight 19 = .ok (.getfield 49, 3) := by decide +kernel
theorem dX11_goNight_22 : decode cX11_goNight 22 = .ok (.iload_n 3, 1) := by decide +kernel
theorem dX11_goNight_23 : decode cX11_goNight 23 = .ok (.iconst 0, 1) := by decide +kernel
theorem dX11_goNight_24 : decode cX11_goNight 24 = .ok (.iastore, 1) := by decide +kernel
theorem dX11_goNight_25 : decode cX11_goNight 25 = .ok (.aload_n 0, 1) := by decide +kernel
theorem dX11_goNight_26 : decode cX11_goNight 26 = .ok (.getfield 52, 3) := by decide +kernel
theorem dX11_goNight_29 : decode cX11_goNight 29 = .ok (.iload_n 3, 1) := by decide +kernel
theorem dX11_goNight_30 : decode cX11_goNight 30 = .ok (.iconst 0, 1) := by decide +kernel
theorem dX11_goNight_31 : decode cX11_goNight 31 = .ok (.iastore, 1) := by decide +kernel
theorem dX11_goNight_32 : decode cX11_goNight 32 = .ok (.iinc 3 1, 3) := by decide +kernel
theorem dX11_goNight_35 : decode cX11_goNight 35 = .ok (.goto (-22), 3) := by decide +kernel
theorem dX11_goNight_38 : decode cX11_goNight 38 = .ok (.iconst 0, 1) := by decide +kernel
theorem dX11_goNight_39 : decode cX11_goNight 39 = .ok (.istore_n 3, 1) := by decide +kernel
theorem dX11_goNight_40 : decode cX11_goNight 40 = .ok (.iload_n 3, 1) := by decide +kernel
theorem dX11_goNight_41 : decode cX11_goNight 41 = .ok (.bipush 99, 2) := by decide +kernel
theorem dX11_goNight_43 : decode cX11_goNight 43 = .ok (.if_icmp .gt 16, 3) := by decide +kernel
theorem dX11_goNight_46 : decode cX11_goNight 46 = .ok (.aload_n 0, 1) := by decide +kernel
theorem dX11_goNight_47 : decode cX11_goNight 47 = .ok (.getfield 55, 3) := by decide +kernel
theorem dX11_goNight_50 : decode cX11_goNight 50 = .ok (.iload_n 3, 1) := by decide +kernel
theorem dX11_goNight_51 : decode cX11_goNight 51 = .ok (.iconst 0, 1) := by decide +kernel
theorem dX11_goNight_52 : decode cX11_goNight 52 = .ok (.iastore, 1) := by decide +kernel
theorem dX11_goNight_53 : decode cX11_goNight 53 = .ok (.iinc 3 1, 3) := by decide +kernel
theorem dX11_goNight_56 : decode cX11_goNight 56 = .ok (.goto (-16), 3) := by decide +kernel
theorem dX11_goNight_59 : decode cX11_goNight 59 = .ok (.iconst 0, 1) := by decide +kernel
theorem dX11_goNight_60 : decode cX11_goNight 60 = .ok (.istore_n 3, 1) := by decide +kernel
theorem dX11_goNight_61 : decode cX11_goNight 61 = .ok (.iload_n 3, 1) := by decide +kernel
theorem dX11_goNight_62 : decode cX11_goNight 62 = .ok (.iload_n 2, 1) := by decide +kernel
theorem dX11_goNight_63 : decode cX11_goNight 63 = .ok (.if_icmp .ge 179, 3) := by decide +kernel
theorem dX11_goNight_66 : decode cX11_goNight 66 = .ok (.aload_n 0, 1) := by decide +kernel
theorem dX11_goNight_67 : decode cX11_goNight 67 = .ok (.getfield 16, 3) := by decide +kernel
theorem dX11_goNight_70 : decode cX11_goNight 70 = .ok (.iload_n 1, 1) := by decide +kernel
theorem dX11_goNight_71 : decode cX11_goNight 71 = .ok (.iconst 2, 1) := by decide +kernel
theorem dX11_goNight_72 : decode cX11_goNight 72 = .ok (.iload_n 3, 1) := by decide +kernel
theorem dX11_goNight_73 : decode cX11_goNight 73 = .ok (.imul, 1) := by decide +kernel
theorem dX11_goNight_74 : decode cX11_goNight 74 = .ok (.iadd, 1) := by decide +kernel
theorem dX11_goNight_75 : decode cX11_goNight 75 = .ok (.iaload, 1) := by decide +kernel
theorem dX11_goNight_76 : decode cX11_goNight 76 = .ok (.istore 4, 2) := by decide +kernel
theorem dX11_goNight_78 : decode cX11_goNight 78 = .ok (.aload_n 0, 1) := by decide +kernel
theorem dX11_goNight_79 : decode cX11_goNight 79 = .ok (.getfield 16, 3) := by decide +kernel
theorem dX11_goNight_82 : decode cX11_goNight 82 = .ok (.iload_n 1, 1) := by decide +kernel
theorem dX11_goNight_83 : decode cX11_goNight 83 = .ok (.iconst 2, 1) := by decide +kernel
theorem dX11_goNight_84 : decode cX11_goNight 84 = .ok (.iload_n 3, 1) := by decide +kernel
theorem dX11_goNight_85 : decode cX11_goNight 85 = .ok (.imul, 1) := by decide +kernel
theorem dX11_goNight_86 : decode cX11_goNight 86 = .ok (.iadd, 1) := by decide +kernel
theorem dX11_goNight_87 : decode cX11_goNight 87 = .ok (.iconst 1, 1) := by decide +kernel
theorem dX11_goNight_88 : decode cX11_goNight 88 = .ok (.iadd, 1) := by decide +kernel
theorem dX11_goNight_89 : decode cX11_goNight 89 = .ok (.iaload, 1) := by decide +kernel
theorem dX11_goNight_90 : decode cX11_goNight 90 = .ok (.istore 5, 2) := by decide +kernel
theorem dX11_goNight_92 : decode cX11_goNight 92 = .ok (.iload_n 3, 1) := by decide +kernel
theorem dX11_goNight_93 : decode cX11_goNight 93 = .ok (.ifCond .le 20, 3) := by decide +kernel
theorem dX11_goNight_96 : decode cX11_goNight 96 = .ok (.iload 5, 2) := by decide +kernel
theorem dX11_goNight_98 : decode cX11_goNight 98 = .ok (.aload_n 0, 1) := by decide +kernel
theorem dX11_goNight_99 : decode cX11_goNight 99 = .ok (.getfield 16, 3) := by decide +kernel
theorem dX11_goNight_102 : decode cX11_goNight 102 = .ok (.iload_n 1, 1) := by decide +kernel
theorem dX11_goNight_103 : decode cX11_goNight 103 = .ok (.iconst 2, 1) := by decide +kernel
theorem dX11_goNight_104 : decode cX11_goNight 104 = .ok (.iload_n 3, 1) := by decide +kernel
theorem dX11_goNight_105 : decode cX11_goNight 105 = .ok (.imul, 1) := by decide +kernel
theorem dX11_goNight_106 : decode cX11_goNight 106 = .ok (.iadd, 1) := by decide +kernel
theorem dX11_goNight_107 : decode cX11_goNight 107 = .ok (.iconst 1, 1) := by decide +kernel
theorem dX11_goNight_108 : decode cX11_goNight 108 = .ok (.isub, 1) := by decide +kernel
theorem dX11_goNight_109 : decode cX11_goNight 109 = .ok (.iaload, 1) := by decide +kernel
theorem dX11_goNight_110 : decode cX11_goNight 110 = .ok (.if_icmp .lt 15, 3) := by decide +kernel
theorem dX11_goNight_113 : decode cX11_goNight 113 = .ok (.iload 5, 2) := by decide +kernel
theorem dX11_goNight_115 : decode cX11_goNight 115 = .ok (.aload_n 0, 1) := by decide +kernel
theorem dX11_goNight_116 : decode cX11_goNight 116 = .ok (.getfield 49, 3) := by decide +kernel
theorem dX11_goNight_119 : decode cX11_goNight 119 = .ok (.iload 4, 2) := by decide +kernel
theorem dX11_goNight_121 : decode cX11_goNight 121 = .ok (.iaload, 1) := by decide +kernel
theorem dX11_goNight_122 : decode cX11_goNight 122 = .ok (.if_icmp .ge 5, 3) := by decide +kernel
theorem dX11_goNight_125 : decode cX11_goNight 125 = .ok (.iload_n 3, 1) := by decide +kernel
theorem dX11_goNight_126 : decode cX11_goNight 126 = .ok (.ireturn, 1) := by decide +kernel
theorem dX11_goNight_127 : decode cX11_goNight 127 = .ok (.aload_n 0, 1) := by decide +kernel
theorem dX11_goNight_128 : decode cX11_goNight 128 = .ok (.iload 4, 2) := by decide +kernel
theorem dX11_goNight_130 : decode cX11_goNight 130 = .ok (.iload 5, 2) := by decide +kernel
theorem dX11_goNight_132 : decode cX11_goNight 132 = .ok (.iconst 1, 1) := by decide +kernel
theorem dX11_goNight_133 : decode cX11_goNight 133 = .ok (.invokevirtual 163, 3) := by decide +kernel
theorem dX11_goNight_136 : decode cX11_goNight 136 = .ok (.istore 6, 2) := by decide +kernel
theorem dX11_goNight_138 : decode cX11_goNight 138 = .ok (.aload_n 0, 1) := by decide +kernel
theorem dX11_goNight_139 : decode cX11_goNight 139 = .ok (.getfield 49, 3) := by decide +kernel
theorem dX11_goNight_142 : decode cX11_goNight 142 = .ok (.iload 4, 2) := by decide +kernel
theorem dX11_goNight_144 : decode cX11_goNight 144 = .ok (.iload 5, 2) := by decide +kernel
theorem dX11_goNight_146 : decode cX11_goNight 146 = .ok (.iload 6, 2) := by decide +kernel
theorem dX11_goNight_148 : decode cX11_goNight 148 = .ok (.iadd, 1) := by decide +kernel
theorem dX11_goNight_149 : decode cX11_goNight 149 = .ok (.iastore, 1) := by decide +kernel
theorem dX11_goNight_150 : decode cX11_goNight 150 = .ok (.aload_n 0, 1) := by decide +kernel
theorem dX11_goNight_151 : decode cX11_goNight 151 = .ok (.getfield 52, 3) := by decide +kernel
theorem dX11_goNight_154 : decode cX11_goNight 154 = .ok (.iload 4, 2) := by decide +kernel
theorem dX11_goNight_156 : decode cX11_goNight 156 = .ok (.dup2, 1) := by decide +kernel
theorem dX11_goNight_157 : decode cX11_goNight 157 = .ok (.iaload, 1) := by decide +kernel
theorem dX11_goNight_158 : decode cX11_goNight 158 = .ok (.iload 6, 2) := by decide +kernel
theorem dX11_goNight_160 : decode cX11_goNight 160 = .ok (.iadd, 1) := by decide +kernel
theorem dX11_goNight_161 : decode cX11_goNight 161 = .ok (.iastore, 1) := by decide +kernel
theorem dX11_goNight_162 : decode cX11_goNight 162 = .ok (.aload_n 0, 1) := by decide +kernel
theorem dX11_goNight_163 : decode cX11_goNight 163 = .ok (.dup, 1) := by decide +kernel
theorem dX11_goNight_164 : decode cX11_goNight 164 = .ok (.getfield 170, 3) := by decide +kernel
theorem dX11_goNight_167 : decode cX11_goNight 167 = .ok (.iload 6, 2) := by decide +kernel
theorem dX11_goNight_169 : decode cX11_goNight 169 = .ok (.iadd, 1) := by decide +kernel
theorem dX11_goNight_170 : decode cX11_goNight 170 = .ok (.putfield 170, 3) := by decide +kernel
theorem dX11_goNight_173 : decode cX11_goNight 173 = .ok (.aload_n 0, 1) := by decide +kernel
theorem dX11_goNight_174 : decode cX11_goNight 174 = .ok (.aload_n 0, 1) := by decide +kernel
theorem dX11_goNight_175 : decode cX11_goNight 175 = .ok (.getfield 49, 3) := by decide +kernel
theorem dX11_goNight_178 : decode cX11_goNight 178 = .ok (.iload 4, 2) := by decide +kernel
theorem dX11_goNight_180 : decode cX11_goNight 180 = .ok (.iaload, 1) := by decide +kernel
theorem dX11_goNight_181 : decode cX11_goNight 181 = .ok (.aload_n 0, 1) := by decide +kernel
theorem dX11_goNight_182 : decode cX11_goNight 182 = .ok (.getfield 173, 3) := by decide +kernel
theorem dX11_goNight_185 : decode cX11_goNight 185 = .ok (.if_icmp .le 13, 3) := by decide +kernel
theorem dX11_goNight_188 : decode cX11_goNight 188 = .ok (.aload_n 0, 1) := by decide +kernel
theorem dX11_goNight_189 : decode cX11_goNight 189 = .ok (.getfield 49, 3) := by decide +kernel
theorem dX11_goNight_192 : decode cX11_goNight 192 = .ok (.iload 4, 2) := by decide +kernel
theorem dX11_goNight_194 : decode cX11_goNight 194 = .ok (.iaload, 1) := by decide +kernel
theorem dX11_goNight_195 : decode cX11_goNight 195 = .ok (.goto 7, 3) := by decide +kernel
theorem dX11_goNight_198 : decode cX11_goNight 198 = .ok (.aload_n 0, 1) := by decide +kernel
theorem dX11_goNight_199 : decode cX11_goNight 199 = .ok (.getfield 173, 3) := by decide +kernel
theorem dX11_goNight_202 : decode cX11_goNight 202 = .ok (.putfield 173, 3) := by decide +kernel
theorem dX11_goNight_205 : decode cX11_goNight 205 = .ok (.iload 5, 2) := by decide +kernel
theorem dX11_goNight_207 : decode cX11_goNight 207 = .ok (.istore 7, 2) := by decide +kernel
theorem dX11_goNight_209 : decode cX11_goNight 209 = .ok (.iload 7, 2) := by decide +kernel
theorem dX11_goNight_211 : decode cX11_goNight 211 = .ok (.iload 5, 2) := by decide +kernel
theorem dX11_goNight_213 : decode cX11_goNight 213 = .ok (.iload 6, 2) := by decide +kernel
theorem dX11_goNight_215 : decode cX11_goNight 215 = .ok (.iadd, 1) := by decide +kernel
theorem dX11_goNight_216 : decode cX11_goNight 216 = .ok (.if_icmp .ge 20, 3) := by decide +kernel
theorem dX11_goNight_219 : decode cX11_goNight 219 = .ok (.aload_n 0, 1) := by decide +kernel
theorem dX11_goNight_220 : decode cX11_goNight 220 = .ok (.getfield 55, 3) := by decide +kernel
theorem dX11_goNight_223 : decode cX11_goNight 223 = .ok (.iload 7, 2) := by decide +kernel
theorem dX11_goNight_225 : decode cX11_goNight 225 = .ok (.dup2, 1) := by decide +kernel
theorem dX11_goNight_226 : decode cX11_goNight 226 = .ok (.iaload, 1) := by decide +kernel
theorem dX11_goNight_227 : decode cX11_goNight 227 = .ok (.iconst 1, 1) := by decide +kernel
theorem dX11_goNight_228 : decode cX11_goNight 228 = .ok (.iadd, 1) := by decide +kernel
theorem dX11_goNight_229 : decode cX11_goNight 229 = .ok (.iastore, 1) := by decide +kernel
theorem dX11_goNight_230 : decode cX11_goNight 230 = .ok (.iinc 7 1, 3) := by decide +kernel
theorem dX11_goNight_233 : decode cX11_goNight 233 = .ok (.goto (-24), 3) := by decide +kernel
theorem dX11_goNight_236 : decode cX11_goNight 236 = .ok (.iinc 3 1, 3) := by decide +kernel
theorem dX11_goNight_239 : decode cX11_goNight 239 = .ok (.goto (-178), 3) := by decide +kernel
theorem dX11_goNight_242 : decode cX11_goNight 242 = .ok (.bipush (-9), 2) := by decide +kernel
theorem dX11_goNight_244 : decode cX11_goNight 244 = .ok (.ireturn, 1) := by decide +kernel
theorem dX11_night_0 : decode cX11_night 0 = .ok (.aload_n 0, 1) := by decide +kernel
theorem dX11_night_1 : decode cX11_night 1 = .ok (.iconst 0, 1) := by decide +kernel
theorem dX11_night_2 : decode cX11_night 2 = .ok (.putfield 76, 3) := by decide +kernel
theorem dX11_night_5 : decode cX11_night 5 = .ok (.iload_n 1, 1) := by decide +kernel
theorem dX11_night_6 : decode cX11_night 6 = .ok (.invokestatic 95, 3) := by decide +kernel
theorem dX11_night_9 : decode cX11_night 9 = .ok (.ifCond .ne 5, 3) := by decide +kernel
theorem dX11_night_12 : decode cX11_night 12 = .ok (.iconst (-1), 1) := by decide +kernel
theorem dX11_night_13 : decode cX11_night 13 = .ok (.ireturn, 1) := by decide +kernel
theorem dX11_night_14 : decode cX11_night 14 = .ok (.iload_n 2, 1) := by decide +kernel
theorem dX11_night_15 : decode cX11_night 15 = .ok (.invokestatic 99, 3) := by decide +kernel
theorem dX11_night_18 : decode cX11_night 18 = .ok (.ifCond .eq 36, 3) := by decide +kernel
theorem dX11_night_21 : decode cX11_night 21 = .ok (.iload 4, 2) := by decide +kernel
theorem dX11_night_23 : decode cX11_night 23 = .ok (.iconst 0, 1) := by decide +kernel
theorem dX11_night_24 : decode cX11_night 24 = .ok (.bipush 20, 2) := by decide +kernel
theorem dX11_night_26 : decode cX11_night 26 = .ok (.invokestatic 82, 3) := by decide +kernel
theorem dX11_night_29 : decode cX11_night 29 = .ok (.ifCond .eq 25, 3) := by decide +kernel
theorem dX11_night_32 : decode cX11_night 32 = .ok (.iload 5, 2) := by decide +kernel
theorem dX11_night_34 : decode cX11_night 34 = .ok (.iconst 0, 1) := by decide +kernel
theorem dX11_night_35 : decode cX11_night 35 = .ok (.iconst 3, 1) := by decide +kernel
theorem dX11_night_36 : decode cX11_night 36 = .ok (.invokestatic 82, 3) := by decide +kernel
theorem dX11_night_39 : decode cX11_night 39 = .ok (.ifCond .ne 18, 3) := by decide +kernel
theorem dX11_night_42 : decode cX11_night 42 = .ok (.iload 5, 2) := by decide +kernel
theorem dX11_night_44 : decode cX11_night 44 = .ok (.bipush 10, 2) := by decide +kernel
theorem dX11_night_46 : decode cX11_night 46 = .ok (.bipush 14, 2) := by decide +kernel
theorem dX11_night_48 : decode cX11_night 48 = .ok (.invokestatic 82, 3) := by decide +kernel
theorem dX11_night_51 : decode cX11_night 51 = .ok (.ifCond .ne 6, 3) := by decide +kernel
theorem dX11_night_54 : decode cX11_night 54 = .ok (.bipush (-2), 2) := by decide +kernel
theorem dX11_night_56 : decode cX11_night 56 = .ok (.ireturn, 1) := by decide +kernel
theorem dX11_night_57 : decode cX11_night 57 = .ok (.aload_n 0, 1) := by decide +kernel
theorem dX11_night_58 : decode cX11_night 58 = .ok (.iload_n 1, 1) := by decide +kernel
theorem dX11_night_59 : decode cX11_night 59 = .ok (.iload_n 2, 1) := by decide +kernel
theorem dX11_night_60 : decode cX11_night 60 = .ok (.iload_n 3, 1) := by decide +kernel
theorem dX11_night_61 : decode cX11_night 61 = .ok (.iconst 2, 1) := by decide +kernel
theorem dX11_night_62 : decode cX11_night 62 = .ok (.iload 4, 2) := by decide +kernel
theorem dX11_night_64 : decode cX11_night 64 = .ok (.imul, 1) := by decide +kernel
theorem dX11_night_65 : decode cX11_night 65 = .ok (.invokevirtual 102, 3) := by decide +kernel
theorem dX11_night_68 : decode cX11_night 68 = .ok (.istore 6, 2) := by decide +kernel
theorem dX11_night_70 : decode cX11_night 70 = .ok (.iload 6, 2) := by decide +kernel
theorem dX11_night_72 : decode cX11_night 72 = .ok (.ifCond .eq 10, 3) := by decide +kernel
theorem dX11_night_75 : decode cX11_night 75 = .ok (.aload_n 0, 1) := by decide +kernel
theorem dX11_night_76 : decode cX11_night 76 = .ok (.iload 6, 2) := by decide +kernel
theorem dX11_night_78 : decode cX11_night 78 = .ok (.invokevirtual 106, 3) := by decide +kernel
theorem dX11_night_81 : decode cX11_night 81 = .ok (.ireturn, 1) := by decide +kernel
theorem dX11_night_82 : decode cX11_night 82 = .ok (.aload_n 0, 1) := by decide +kernel
theorem dX11_night_83 : decode cX11_night 83 = .ok (.getfield 86, 3) := by decide +kernel
theorem dX11_night_86 : decode cX11_night 86 = .ok (.ifCond .ne 6, 3) := by decide +kernel
theorem dX11_night_89 : decode cX11_night 89 = .ok (.bipush (-3), 2) := by decide +kernel
theorem dX11_night_91 : decode cX11_night 91 = .ok (.ireturn, 1) := by decide +kernel
theorem dX11_night_92 : decode cX11_night 92 = .ok (.bipush 60, 2) := by decide +kernel
theorem dX11_night_94 : decode cX11_night 94 = .ok (.iload_n 1, 1) := by decide +kernel
theorem dX11_night_95 : decode cX11_night 95 = .ok (.imul, 1) := by decide +kernel
theorem dX11_night_96 : decode cX11_night 96 = .ok (.iload_n 3, 1) := by decide +kernel
theorem dX11_night_97 : decode cX11_night 97 = .ok (.iadd, 1) := by decide +kernel
theorem dX11_night_98 : decode cX11_night 98 = .ok (.istore 7, 2) := by decide +kernel
theorem dX11_night_100 : decode cX11_night 100 = .ok (.iconst 0, 1) := by decide +kernel
theorem dX11_night_101 : decode cX11_night 101 = .ok (.istore 8, 2) := by decide +kernel
theorem dX11_night_103 : decode cX11_night 103 = .ok (.iload 8, 2) := by decide +kernel
theorem dX11_night_105 : decode cX11_night 105 = .ok (.iload 4, 2) := by decide +kernel
theorem dX11_night_107 : decode cX11_night 107 = .ok (.if_icmp .ge 53, 3) := by decide +kernel
theorem dX11_night_110 : decode cX11_night 110 = .ok (.aload_n 0, 1) := by decide +kernel
theorem dX11_night_111 : decode cX11_night 111 = .ok (.aload_n 0, 1) := by decide +kernel
theorem dX11_night_112 : decode cX11_night 112 = .ok (.getfield 16, 3) := by decide +kernel
theorem dX11_night_115 : decode cX11_night 115 = .ok (.iload 7, 2) := by decide +kernel
theorem dX11_night_117 : decode cX11_night 117 = .ok (.iconst 2, 1) := by decide +kernel
theorem dX11_night_118 : decode cX11_night 118 = .ok (.iload 8, 2) := by decide +kernel
theorem dX11_night_120 : decode cX11_night 120 = .ok (.imul, 1) := by decide +kernel
theorem dX11_night_121 : decode cX11_night 121 = .ok (.iadd, 1) := by decide +kernel
theorem dX11_night_122 : decode cX11_night 122 = .ok (.iaload, 1) := by decide +kernel
theorem dX11_night_123 : decode cX11_night 123 = .ok (.invokevirtual 148, 3) := by decide +kernel
theorem dX11_night_126 : decode cX11_night 126 = .ok (.ifCond .ne 5, 3) := by decide +kernel
theorem dX11_night_129 : decode cX11_night 129 = .ok (.iconst (-1), 1) := by decide +kernel
theorem dX11_night_130 : decode cX11_night 130 = .ok (.ireturn, 1) := by decide +kernel
theorem dX11_night_131 : decode cX11_night 131 = .ok (.aload_n 0, 1) := by decide +kernel
theorem dX11_night_132 : decode cX11_night 132 = .ok (.getfield 16, 3) := by decide +kernel
theorem dX11_night_135 : decode cX11_night 135 = .ok (.iload 7, 2) := by decide +kernel
theorem dX11_night_137 : decode cX11_night 137 = .ok (.iconst 2, 1) := by decide +kernel
theorem dX11_night_138 : decode cX11_night 138 = .ok (.iload 8, 2) := by decide +kernel
theorem dX11_night_140 : decode cX11_night 140 = .ok (.imul, 1) := by decide +kernel
theorem dX11_night_141 : decode cX11_night 141 = .ok (.iadd, 1) := by decide +kernel
theorem dX11_night_142 : decode cX11_night 142 = .ok (.iconst 1, 1) := by decide +kernel
theorem dX11_night_143 : decode cX11_night 143 = .ok (.iadd, 1) := by decide +kernel
theorem dX11_night_144 : decode cX11_night 144 = .ok (.iaload, 1) := by decide +kernel
theorem dX11_night_145 : decode cX11_night 145 = .ok (.invokestatic 160, 3) := by decide +kernel
theorem dX11_night_148 : decode cX11_night 148 = .ok (.ifCond .ne 6, 3) := by decide +kernel
theorem dX11_night_151 : decode cX11_night 151 = .ok (.bipush (-2), 2) := by decide +kernel
theorem dX11_night_153 : decode cX11_night 153 = .ok (.ireturn, 1) := by decide +kernel
theorem dX11_night_154 : decode cX11_night 154 = .ok (.iinc 8 1, 3) := by decide +kernel
theorem dX11_night_157 : decode cX11_night 157 = .ok (.goto (-54), 3) := by decide +kernel
theorem dX11_night_160 : decode cX11_night 160 = .ok (.aload_n 0, 1) := by decide +kernel
theorem dX11_night_161 : decode cX11_night 161 = .ok (.iload 7, 2) := by decide +kernel
theorem dX11_night_163 : decode cX11_night 163 = .ok (.iload 4, 2) := by decide +kernel
theorem dX11_night_165 : decode cX11_night 165 = .ok (.invokevirtual 176, 3) := by decide +kernel
theorem dX11_night_168 : decode cX11_night 168 = .ok (.istore 8, 2) := by decide +kernel
theorem dX11_night_170 : decode cX11_night 170 = .ok (.iload 5, 2) := by decide +kernel
theorem dX11_night_172 : decode cX11_night 172 = .ok (.iconst 1, 1) := by decide +kernel
theorem dX11_night_173 : decode cX11_night 173 = .ok (.if_icmp .ne 6, 3) := by decide +kernel
theorem dX11_night_176 : decode cX11_night 176 = .ok (.iload 8, 2) := by decide +kernel
theorem dX11_night_178 : decode cX11_night 178 = .ok (.ireturn, 1) := by decide +kernel
theorem dX11_night_179 : decode cX11_night 179 = .ok (.iload 8, 2) := by decide +kernel
theorem dX11_night_181 : decode cX11_night 181 = .ok (.bipush (-9), 2) := by decide +kernel
theorem dX11_night_183 : decode cX11_night 183 = .ok (.if_icmp .ne 12, 3) := by decide +kernel
theorem dX11_night_186 : decode cX11_night 186 = .ok (.aload_n 0, 1) := by decide +kernel
theorem dX11_night_187 : decode cX11_night 187 = .ok (.iload 5, 2) := by decide +kernel
theorem dX11_night_189 : decode cX11_night 189 = .ok (.invokevirtual 179, 3) := by decide +kernel
theorem dX11_night_192 : decode cX11_night 192 = .ok (.goto 8, 3) := by decide +kernel
theorem dX11_night_195 : decode cX11_night 195 = .ok (.bipush (-100), 2) := by decide +kernel
theorem dX11_night_197 : decode cX11_night 197 = .ok (.iload 8, 2) := by decide +kernel
theorem dX11_night_199 : decode cX11_night 199 = .ok (.isub, 1) := by decide +kernel
theorem dX11_night_200 : decode cX11_night 200 = .ok (.ireturn, 1) := by decide +kernel
theorem dX11_tellNight_0 : decode cX11_tellNight 0 = .ok (.iload_n 1, 1) := by decide +kernel
theorem dX11_tellNight_1 : decode cX11_tellNight 1 = .ok (.bipush 10, 2) := by decide +kernel
theorem dX11_tellNight_3 : decode cX11_tellNight 3 = .ok (.if_icmp .lt 29, 3) := by decide +kernel
theorem dX11_tellNight_6 : decode cX11_tellNight 6 = .ok (.aload_n 0, 1) := by decide +kernel
theorem dX11_tellNight_7 : decode cX11_tellNight 7 = .ok (.iload_n 1, 1) := by decide +kernel
theorem dX11_tellNight_8 : decode cX11_tellNight 8 = .ok (.bipush 10, 2) := by decide +kernel
theorem dX11_tellNight_10 : decode cX11_tellNight 10 = .ok (.isub, 1) := by decide +kernel
theorem dX11_tellNight_11 : decode cX11_tellNight 11 = .ok (.invokevirtual 148, 3) := by decide +kernel
theorem dX11_tellNight_14 : decode cX11_tellNight 14 = .ok (.ifCond .eq 15, 3) := by decide +kernel
theorem dX11_tellNight_17 : decode cX11_tellNight 17 = .ok (.aload_n 0, 1) := by decide +kernel
theorem dX11_tellNight_18 : decode cX11_tellNight 18 = .ok (.getfield 52, 3) := by decide +kernel
theorem dX11_tellNight_21 : decode cX11_tellNight 21 = .ok (.iload_n 1, 1) := by decide +kernel
theorem dX11_tellNight_22 : decode cX11_tellNight 22 = .ok (.bipush 10, 2) := by decide +kernel
theorem dX11_tellNight_24 : decode cX11_tellNight 24 = .ok (.isub, 1) := by decide +kernel
theorem dX11_tellNight_25 : decode cX11_tellNight 25 = .ok (.iaload, 1) := by decide +kernel
theorem dX11_tellNight_26 : decode cX11_tellNight 26 = .ok (.goto 5, 3) := by decide +kernel
theorem dX11_tellNight_29 : decode cX11_tellNight 29 = .ok (.bipush (-9), 2) := by decide +kernel
theorem dX11_tellNight_31 : decode cX11_tellNight 31 = .ok (.ireturn, 1) := by decide +kernel
theorem dX11_tellNight_32 : decode cX11_tellNight 32 = .ok (.iload_n 1, 1) := by decide +kernel
theorem dX11_tellNight_33 : decode cX11_tellNight 33 = .ok (.iconst 3, 1) := by decide +kernel
theorem dX11_tellNight_34 : decode cX11_tellNight 34 = .ok (.if_icmp .ge 19, 3) := by decide +kernel
theorem dX11_tellNight_37 : decode cX11_tellNight 37 = .ok (.iload_n 1, 1) := by decide +kernel
theorem dX11_tellNight_38 : decode cX11_tellNight 38 = .ok (.ifCond .ne 10, 3) := by decide +kernel
theorem dX11_tellNight_41 : decode cX11_tellNight 41 = .ok (.aload_n 0, 1) := by decide +kernel
theorem dX11_tellNight_42 : decode cX11_tellNight 42 = .ok (.getfield 170, 3) := by decide +kernel
theorem dX11_tellNight_45 : decode cX11_tellNight 45 = .ok (.goto 7, 3) := by decide +kernel
theorem dX11_tellNight_48 : decode cX11_tellNight 48 = .ok (.aload_n 0, 1) := by decide +kernel
theorem dX11_tellNight_49 : decode cX11_tellNight 49 = .ok (.getfield 173, 3) := by decide +kernel
theorem dX11_tellNight_52 : decode cX11_tellNight 52 = .ok (.ireturn, 1) := by decide +kernel
theorem dX11_tellNight_53 : decode cX11_tellNight 53 = .ok (.iconst 0, 1) := by decide +kernel
theorem dX11_tellNight_54 : decode cX11_tellNight 54 = .ok (.istore_n 2, 1) := by decide +kernel
theorem dX11_tellNight_55 : decode cX11_tellNight 55 = .ok (.iconst 0, 1) := by decide +kernel
theorem dX11_tellNight_56 : decode cX11_tellNight 56 = .ok (.istore_n 3, 1) := by decide +kernel
theorem dX11_tellNight_57 : decode cX11_tellNight 57 = .ok (.iload_n 3, 1) := by decide +kernel
theorem dX11_tellNight_58 : decode cX11_tellNight 58 = .ok (.bipush 99, 2) := by decide +kernel
theorem dX11_tellNight_60 : decode cX11_tellNight 60 = .ok (.if_icmp .gt 30, 3) := by decide +kernel
theorem dX11_tellNight_63 : decode cX11_tellNight 63 = .ok (.aload_n 0, 1) := by decide +kernel
theorem dX11_tellNight_64 : decode cX11_tellNight 64 = .ok (.getfield 55, 3) := by decide +kernel
theorem dX11_tellNight_67 : decode cX11_tellNight 67 = .ok (.iload_n 3, 1) := by decide +kernel
theorem dX11_tellNight_68 : decode cX11_tellNight 68 = .ok (.iaload, 1) := by decide +kernel
theorem dX11_tellNight_69 : decode cX11_tellNight 69 = .ok (.iload_n 2, 1) := by decide +kernel
theorem dX11_tellNight_70 : decode cX11_tellNight 70 = .ok (.if_icmp .le 12, 3) := by decide +kernel
theorem dX11_tellNight_73 : decode cX11_tellNight 73 = .ok (.aload_n 0, 1) := by decide +kernel
theorem dX11_tellNight_74 : decode cX11_tellNight 74 = .ok (.getfield 55, 3) := by decide +kernel
theorem dX11_tellNight_77 : decode cX11_tellNight 77 = .ok (.iload_n 3, 1) := by decide +kernel
theorem dX11_tellNight_78 : decode cX11_tellNight 78 = .ok (.iaload, 1) := by decide +kernel
theorem dX11_tellNight_79 : decode cX11_tellNight 79 = .ok (.goto 4, 3) := by decide +kernel
theorem dX11_tellNight_82 : decode cX11_tellNight 82 = .ok (.iload_n 2, 1) := by decide +kernel
theorem dX11_tellNight_83 : decode cX11_tellNight 83 = .ok (.istore_n 2, 1) := by decide +kernel
theorem dX11_tellNight_84 : decode cX11_tellNight 84 = .ok (.iinc 3 1, 3) := by decide +kernel
theorem dX11_tellNight_87 : decode cX11_tellNight 87 = .ok (.goto (-30), 3) := by decide +kernel
theorem dX11_tellNight_90 : decode cX11_tellNight 90 = .ok (.iload_n 2, 1) := by decide +kernel
theorem dX11_tellNight_91 : decode cX11_tellNight 91 = .ok (.ireturn, 1) := by decide +kernel
theorem dX11_getsOf_0 : decode cX11_getsOf 0 = .ok (.aload_n 0, 1) := by decide +kernel
theorem dX11_getsOf_1 : decode cX11_getsOf 1 = .ok (.iload_n 1, 1) := by decide +kernel
theorem dX11_getsOf_2 : decode cX11_getsOf 2 = .ok (.iload_n 2, 1) := by decide +kernel
theorem dX11_getsOf_3 : decode cX11_getsOf 3 = .ok (.iconst 1, 1) := by decide +kernel
theorem dX11_getsOf_4 : decode cX11_getsOf 4 = .ok (.invokevirtual 163, 3) := by decide +kernel
theorem dX11_getsOf_7 : decode cX11_getsOf 7 = .ok (.istore_n 3, 1) := by decide +kernel
theorem dX11_getsOf_8 : decode cX11_getsOf 8 = .ok (.iconst 0, 1) := by decide +kernel
theorem dX11_getsOf_9 : decode cX11_getsOf 9 = .ok (.istore 4, 2) := by decide +kernel
theorem dX11_getsOf_11 : decode cX11_getsOf 11 = .ok (.iconst 0, 1) := by decide +kernel
theorem dX11_getsOf_12 : decode cX11_getsOf 12 = .ok (.istore 5, 2) := by decide +kernel
theorem dX11_getsOf_14 : decode cX11_getsOf 14 = .ok (.iload 5, 2) := by decide +kernel
theorem dX11_getsOf_16 : decode cX11_getsOf 16 = .ok (.aload_n 0, 1) := by decide +kernel
theorem dX11_getsOf_17 : decode cX11_getsOf 17 = .ok (.getfield 125, 3) := by decide +kernel
theorem dX11_getsOf_20 : decode cX11_getsOf 20 = .ok (.if_icmp .ge 35, 3) := by decide +kernel
theorem dX11_getsOf_23 : decode cX11_getsOf 23 = .ok (.iload 4, 2) := by decide +kernel
theorem dX11_getsOf_25 : decode cX11_getsOf 25 = .ok (.iload_n 3, 1) := by decide +kernel
theorem dX11_getsOf_26 : decode cX11_getsOf 26 = .ok (.iconst 2, 1) := by decide +kernel
theorem dX11_getsOf_27 : decode cX11_getsOf 27 = .ok (.aload_n 0, 1) := by decide +kernel
theorem dX11_getsOf_28 : decode cX11_getsOf 28 = .ok (.getfield 31, 3) := by decide +kernel
theorem dX11_getsOf_31 : decode cX11_getsOf 31 = .ok (.iload 5, 2) := by decide +kernel
theorem dX11_getsOf_33 : decode cX11_getsOf 33 = .ok (.iaload, 1) := by decide +kernel
theorem dX11_getsOf_34 : decode cX11_getsOf 34 = .ok (.imul, 1) := by decide +kernel
theorem dX11_getsOf_35 : decode cX11_getsOf 35 = .ok (.if_icmp .lt 10, 3) := by decide +kernel
theorem dX11_getsOf_38 : decode cX11_getsOf 38 = .ok (.iconst 1, 1) := by decide +kernel
theorem dX11_getsOf_39 : decode cX11_getsOf 39 = .ok (.iload 5, 2) := by decide +kernel
theorem dX11_getsOf_41 : decode cX11_getsOf 41 = .ok (.ishl, 1) := by decide +kernel
theorem dX11_getsOf_42 : decode cX11_getsOf 42 = .ok (.goto 4, 3) := by decide +kernel
theorem dX11_getsOf_45 : decode cX11_getsOf 45 = .ok (.iconst 0, 1) := by decide +kernel
theorem dX11_getsOf_46 : decode cX11_getsOf 46 = .ok (.ior, 1) := by decide +kernel
theorem dX11_getsOf_47 : decode cX11_getsOf 47 = .ok (.istore 4, 2) := by decide +kernel
theorem dX11_getsOf_49 : decode cX11_getsOf 49 = .ok (.iinc 5 1, 3) := by decide +kernel
theorem dX11_getsOf_52 : decode cX11_getsOf 52 = .ok (.goto (-38), 3) := by decide +kernel
theorem dX11_getsOf_55 : decode cX11_getsOf 55 = .ok (.iload 4, 2) := by decide +kernel
theorem dX11_getsOf_57 : decode cX11_getsOf 57 = .ok (.ireturn, 1) := by decide +kernel
theorem dX11_gets_0 : decode cX11_gets 0 = .ok (.aload_n 0, 1) := by decide +kernel
theorem dX11_gets_1 : decode cX11_gets 1 = .ok (.iload_n 1, 1) := by decide +kernel
theorem dX11_gets_2 : decode cX11_gets 2 = .ok (.invokevirtual 148, 3) := by decide +kernel
theorem dX11_gets_5 : decode cX11_gets 5 = .ok (.ifCond .ne 5, 3) := by decide +kernel
theorem dX11_gets_8 : decode cX11_gets 8 = .ok (.iconst (-1), 1) := by decide +kernel
theorem dX11_gets_9 : decode cX11_gets 9 = .ok (.ireturn, 1) := by decide +kernel
theorem dX11_gets_10 : decode cX11_gets 10 = .ok (.iload_n 2, 1) := by decide +kernel
theorem dX11_gets_11 : decode cX11_gets 11 = .ok (.invokestatic 160, 3) := by decide +kernel
theorem dX11_gets_14 : decode cX11_gets 14 = .ok (.ifCond .eq 12, 3) := by decide +kernel
theorem dX11_gets_17 : decode cX11_gets 17 = .ok (.aload_n 0, 1) := by decide +kernel
theorem dX11_gets_18 : decode cX11_gets 18 = .ok (.iload_n 1, 1) := by decide +kernel
theorem dX11_gets_19 : decode cX11_gets 19 = .ok (.iload_n 2, 1) := by decide +kernel
theorem dX11_gets_20 : decode cX11_gets 20 = .ok (.invokevirtual 182, 3) := by decide +kernel
theorem dX11_gets_23 : decode cX11_gets 23 = .ok (.goto 5, 3) := by decide +kernel
theorem dX11_gets_26 : decode cX11_gets 26 = .ok (.bipush (-2), 2) := by decide +kernel
theorem dX11_gets_28 : decode cX11_gets 28 = .ok (.ireturn, 1) := by decide +kernel
theorem dX11_worthOfRow_0 : decode cX11_worthOfRow 0 = .ok (.iconst 0, 1) := by decide +kernel
theorem dX11_worthOfRow_1 : decode cX11_worthOfRow 1 = .ok (.istore_n 1, 1) := by decide +kernel
theorem dX11_worthOfRow_2 : decode cX11_worthOfRow 2 = .ok (.iconst 0, 1) := by decide +kernel
theorem dX11_worthOfRow_3 : decode cX11_worthOfRow 3 = .ok (.istore_n 2, 1) := by decide +kernel
theorem dX11_worthOfRow_4 : decode cX11_worthOfRow 4 = .ok (.iconst 0, 1) := by decide +kernel
theorem dX11_worthOfRow_5 : decode cX11_worthOfRow 5 = .ok (.istore_n 3, 1) := by decide +kernel
theorem dX11_worthOfRow_6 : decode cX11_worthOfRow 6 = .ok (.iload_n 3, 1) := by decide +kernel
theorem dX11_worthOfRow_7 : decode cX11_worthOfRow 7 = .ok (.aload_n 0, 1) := by decide +kernel
theorem dX11_worthOfRow_8 : decode cX11_worthOfRow 8 = .ok (.getfield 86, 3) := by decide +kernel
theorem dX11_worthOfRow_11 : decode cX11_worthOfRow 11 = .ok (.if_icmp .ge 82, 3) := by decide +kernel
theorem dX11_worthOfRow_14 : decode cX11_worthOfRow 14 = .ok (.aload_n 0, 1) := by decide +kernel
theorem dX11_worthOfRow_15 : decode cX11_worthOfRow 15 = .ok (.getfield 61, 3) := by decide +kernel
theorem dX11_worthOfRow_18 : decode cX11_worthOfRow 18 = .ok (.iload_n 3, 1) := by decide +kernel
theorem dX11_worthOfRow_19 : decode cX11_worthOfRow 19 = .ok (.iaload, 1) := by decide +kernel
theorem dX11_worthOfRow_20 : decode cX11_worthOfRow 20 = .ok (.aload_n 0, 1) := by decide +kernel
theorem dX11_worthOfRow_21 : decode cX11_worthOfRow 21 = .ok (.getfield 125, 3) := by decide +kernel
theorem dX11_worthOfRow_24 : decode cX11_worthOfRow 24 = .ok (.if_icmp .ge 63, 3) := by decide +kernel
theorem dX11_worthOfRow_27 : decode cX11_worthOfRow 27 = .ok (.aload_n 0, 1) := by decide +kernel
theorem dX11_worthOfRow_28 : decode cX11_worthOfRow 28 = .ok (.getfield 58, 3) := by decide +kernel
theorem dX11_worthOfRow_31 : decode cX11_worthOfRow 31 = .ok (.iload_n 3, 1) := by decide +kernel
theorem dX11_worthOfRow_32 : decode cX11_worthOfRow 32 = .ok (.iaload, 1) := by decide +kernel
theorem dX11_worthOfRow_33 : decode cX11_worthOfRow 33 = .ok (.aload_n 0, 1) := by decide +kernel
theorem dX11_worthOfRow_34 : decode cX11_worthOfRow 34 = .ok (.getfield 61, 3) := by decide +kernel
theorem dX11_worthOfRow_37 : decode cX11_worthOfRow 37 = .ok (.iload_n 3, 1) := by decide +kernel
theorem dX11_worthOfRow_38 : decode cX11_worthOfRow 38 = .ok (.iaload, 1) := by decide +kernel
theorem dX11_worthOfRow_39 : decode cX11_worthOfRow 39 = .ok (.ishr, 1) := by decide +kernel
theorem dX11_worthOfRow_40 : decode cX11_worthOfRow 40 = .ok (.iconst 1, 1) := by decide +kernel
theorem dX11_worthOfRow_41 : decode cX11_worthOfRow 41 = .ok (.iand, 1) := by decide +kernel
theorem dX11_worthOfRow_42 : decode cX11_worthOfRow 42 = .ok (.ifCond .eq 17, 3) := by decide +kernel
theorem dX11_worthOfRow_45 : decode cX11_worthOfRow 45 = .ok (.iload_n 2, 1) := by decide +kernel
theorem dX11_worthOfRow_46 : decode cX11_worthOfRow 46 = .ok (.aload_n 0, 1) := by decide +kernel
theorem dX11_worthOfRow_47 : decode cX11_worthOfRow 47 = .ok (.getfield 61, 3) := by decide +kernel
theorem dX11_worthOfRow_50 : decode cX11_worthOfRow 50 = .ok (.iload_n 3, 1) := by decide +kernel
theorem dX11_worthOfRow_51 : decode cX11_worthOfRow 51 = .ok (.iaload, 1) := by decide +kernel
theorem dX11_worthOfRow_52 : decode cX11_worthOfRow 52 = .ok (.ishr, 1) := by decide +kernel
theorem dX11_worthOfRow_53 : decode cX11_worthOfRow 53 = .ok (.iconst 1, 1) := by decide +kernel
theorem dX11_worthOfRow_54 : decode cX11_worthOfRow 54 = .ok (.iand, 1) := by decide +kernel
theorem dX11_worthOfRow_55 : decode cX11_worthOfRow 55 = .ok (.iconst 1, 1) := by decide +kernel
theorem dX11_worthOfRow_56 : decode cX11_worthOfRow 56 = .ok (.if_icmp .ne 6, 3) := by decide +kernel
theorem dX11_worthOfRow_59 : decode cX11_worthOfRow 59 = .ok (.bipush (-9), 2) := by decide +kernel
theorem dX11_worthOfRow_61 : decode cX11_worthOfRow 61 = .ok (.ireturn, 1) := by decide +kernel
theorem dX11_worthOfRow_62 : decode cX11_worthOfRow 62 = .ok (.iload_n 2, 1) := by decide +kernel
theorem dX11_worthOfRow_63 : decode cX11_worthOfRow 63 = .ok (.iconst 1, 1) := by decide +kernel
theorem dX11_worthOfRow_64 : decode cX11_worthOfRow 64 = .ok (.aload_n 0, 1) := by decide +kernel
theorem dX11_worthOfRow_65 : decode cX11_worthOfRow 65 = .ok (.getfield 61, 3) := by decide +kernel
theorem dX11_worthOfRow_68 : decode cX11_worthOfRow 68 = .ok (.iload_n 3, 1) := by decide +kernel
theorem dX11_worthOfRow_69 : decode cX11_worthOfRow 69 = .ok (.iaload, 1) := by decide +kernel
theorem dX11_worthOfRow_70 : decode cX11_worthOfRow 70 = .ok (.ishl, 1) := by decide +kernel
theorem dX11_worthOfRow_71 : decode cX11_worthOfRow 71 = .ok (.ior, 1) := by decide +kernel
theorem dX11_worthOfRow_72 : decode cX11_worthOfRow 72 = .ok (.istore_n 2, 1) := by decide +kernel
theorem dX11_worthOfRow_73 : decode cX11_worthOfRow 73 = .ok (.iload_n 1, 1) := by decide +kernel
theorem dX11_worthOfRow_74 : decode cX11_worthOfRow 74 = .ok (.aload_n 0, 1) := by decide +kernel
theorem dX11_worthOfRow_75 : decode cX11_worthOfRow 75 = .ok (.getfield 31, 3) := by decide +kernel
theorem dX11_worthOfRow_78 : decode cX11_worthOfRow 78 = .ok (.aload_n 0, 1) := by decide +kernel
theorem dX11_worthOfRow_79 : decode cX11_worthOfRow 79 = .ok (.getfield 61, 3) := by decide +kernel
theorem dX11_worthOfRow_82 : decode cX11_worthOfRow 82 = .ok (.iload_n 3, 1) := by decide +kernel
theorem dX11_worthOfRow_83 : decode cX11_worthOfRow 83 = .ok (.iaload, 1) := by decide +kernel
theorem dX11_worthOfRow_84 : decode cX11_worthOfRow 84 = .ok (.iaload, 1) := by decide +kernel
theorem dX11_worthOfRow_85 : decode cX11_worthOfRow 85 = .ok (.iadd, 1) := by decide +kernel
theorem dX11_worthOfRow_86 : decode cX11_worthOfRow 86 = .ok (.istore_n 1, 1) := by decide +kernel
theorem dX11_worthOfRow_87 : decode cX11_worthOfRow 87 = .ok (.iinc 3 1, 3) := by decide +kernel
theorem dX11_worthOfRow_90 : decode cX11_worthOfRow 90 = .ok (.goto (-84), 3) := by decide +kernel
theorem dX11_worthOfRow_93 : decode cX11_worthOfRow 93 = .ok (.iload_n 1, 1) := by decide +kernel
theorem dX11_worthOfRow_94 : decode cX11_worthOfRow 94 = .ok (.ireturn, 1) := by decide +kernel
theorem dX11_findSend_0 : decode cX11_findSend 0 = .ok (.iconst 1, 1) := by decide +kernel
theorem dX11_findSend_1 : decode cX11_findSend 1 = .ok (.istore_n 2, 1) := by decide +kernel
theorem dX11_findSend_2 : decode cX11_findSend 2 = .ok (.iconst 0, 1) := by decide +kernel
theorem dX11_findSend_3 : decode cX11_findSend 3 = .ok (.istore_n 3, 1) := by decide +kernel
theorem dX11_findSend_4 : decode cX11_findSend 4 = .ok (.iload_n 3, 1) := by decide +kernel
theorem dX11_findSend_5 : decode cX11_findSend 5 = .ok (.aload_n 0, 1) := by decide +kernel
theorem dX11_findSend_6 : decode cX11_findSend 6 = .ok (.getfield 86, 3) := by decide +kernel
theorem dX11_findSend_9 : decode cX11_findSend 9 = .ok (.if_icmp .ge 30, 3) := by decide +kernel
theorem dX11_findSend_12 : decode cX11_findSend 12 = .ok (.aload_n 0, 1) := by decide +kernel
theorem dX11_findSend_13 : decode cX11_findSend 13 = .ok (.getfield 58, 3) := by decide +kernel
theorem dX11_findSend_16 : decode cX11_findSend 16 = .ok (.iload_n 3, 1) := by decide +kernel
theorem dX11_findSend_17 : decode cX11_findSend 17 = .ok (.aload_n 0, 1) := by decide +kernel
theorem dX11_findSend_18 : decode cX11_findSend 18 = .ok (.iload_n 3, 1) := by decide +kernel
theorem dX11_findSend_19 : decode cX11_findSend 19 = .ok (.iload_n 1, 1) := by decide +kernel
theorem dX11_findSend_20 : decode cX11_findSend 20 = .ok (.invokevirtual 182, 3) := by decide +kernel
theorem dX11_findSend_23 : decode cX11_findSend 23 = .ok (.iastore, 1) := by decide +kernel
theorem dX11_findSend_24 : decode cX11_findSend 24 = .ok (.iload_n 2, 1) := by decide +kernel
theorem dX11_findSend_25 : decode cX11_findSend 25 = .ok (.aload_n 0, 1) := by decide +kernel
theorem dX11_findSend_26 : decode cX11_findSend 26 = .ok (.getfield 125, 3) := by decide +kernel
theorem dX11_findSend_29 : decode cX11_findSend 29 = .ok (.iconst 1, 1) := by decide +kernel
theorem dX11_findSend_30 : decode cX11_findSend 30 = .ok (.iadd, 1) := by decide +kernel
theorem dX11_findSend_31 : decode cX11_findSend 31 = .ok (.imul, 1) := by decide +kernel
theorem dX11_findSend_32 : decode cX11_findSend 32 = .ok (.istore_n 2, 1) := by decide +kernel
theorem dX11_findSend_33 : decode cX11_findSend 33 = .ok (.iinc 3 1, 3) := by decide +kernel
theorem dX11_findSend_36 : decode cX11_findSend 36 = .ok (.goto (-32), 3) := by decide +kernel
theorem dX11_findSend_39 : decode cX11_findSend 39 = .ok (.bipush (-9), 2) := by decide +kernel
theorem dX11_findSend_41 : decode cX11_findSend 41 = .ok (.istore_n 3, 1) := by decide +kernel
theorem dX11_findSend_42 : decode cX11_findSend 42 = .ok (.iconst 0, 1) := by decide +kernel
theorem dX11_findSend_43 : decode cX11_findSend 43 = .ok (.istore 4, 2) := by decide +kernel
theorem dX11_findSend_45 : decode cX11_findSend 45 = .ok (.iload 4, 2) := by decide +kernel
theorem dX11_findSend_47 : decode cX11_findSend 47 = .ok (.iload_n 2, 1) := by decide +kernel
theorem dX11_findSend_48 : decode cX11_findSend 48 = .ok (.if_icmp .ge 106, 3) := by decide +kernel
theorem dX11_findSend_51 : decode cX11_findSend 51 = .ok (.iload 4, 2) := by decide +kernel
theorem dX11_findSend_53 : decode cX11_findSend 53 = .ok (.istore 5, 2) := by decide +kernel
theorem dX11_findSend_55 : decode cX11_findSend 55 = .ok (.aload_n 0, 1) := by decide +kernel
theorem dX11_findSend_56 : decode cX11_findSend 56 = .ok (.getfield 86, 3) := by decide +kernel
theorem dX11_findSend_59 : decode cX11_findSend 59 = .ok (.iconst 1, 1) := by decide +kernel
theorem dX11_findSend_60 : decode cX11_findSend 60 = .ok (.isub, 1) := by decide +kernel
theorem dX11_findSend_61 : decode cX11_findSend 61 = .ok (.istore 6, 2) := by decide +kernel
theorem dX11_findSend_63 : decode cX11_findSend 63 = .ok (.iload 6, 2) := by decide +kernel
theorem dX11_findSend_65 : decode cX11_findSend 65 = .ok (.ifCond .lt 36, 3) := by decide +kernel
theorem dX11_findSend_68 : decode cX11_findSend 68 = .ok (.aload_n 0, 1) := by decide +kernel
theorem dX11_findSend_69 : decode cX11_findSend 69 = .ok (.getfield 61, 3) := by decide +kernel
theorem dX11_findSend_72 : decode cX11_findSend 72 = .ok (.iload 6, 2) := by decide +kernel
theorem dX11_findSend_74 : decode cX11_findSend 74 = .ok (.iload 5, 2) := by decide +kernel
theorem dX11_findSend_76 : decode cX11_findSend 76 = .ok (.aload_n 0, 1) := by decide +kernel
theorem dX11_findSend_77 : decode cX11_findSend 77 = .ok (.getfield 125, 3) := by decide +kernel
theorem dX11_findSend_80 : decode cX11_findSend 80 = .ok (.iconst 1, 1) := by decide +kernel
theorem dX11_findSend_81 : decode cX11_findSend 81 = .ok (.iadd, 1) := by decide +kernel
theorem dX11_findSend_82 : decode cX11_findSend 82 = .ok (.irem, 1) := by decide +kernel
theorem dX11_findSend_83 : decode cX11_findSend 83 = .ok (.iastore, 1) := by decide +kernel
theorem dX11_findSend_84 : decode cX11_findSend 84 = .ok (.iload 5, 2) := by decide +kernel
theorem dX11_findSend_86 : decode cX11_findSend 86 = .ok (.aload_n 0, 1) := by decide +kernel
theorem dX11_findSend_87 : decode cX11_findSend 87 = .ok (.getfield 125, 3) := by decide +kernel
theorem dX11_findSend_90 : decode cX11_findSend 90 = .ok (.iconst 1, 1) := by decide +kernel
theorem dX11_findSend_91 : decode cX11_findSend 91 = .ok (.iadd, 1) := by decide +kernel
theorem dX11_findSend_92 : decode cX11_findSend 92 = .ok (.idiv, 1) := by decide +kernel
theorem dX11_findSend_93 : decode cX11_findSend 93 = .ok (.istore 5, 2) := by decide +kernel
theorem dX11_findSend_95 : decode cX11_findSend 95 = .ok (.iinc 6 (-1), 3) := by decide +kernel
theorem dX11_findSend_98 : decode cX11_findSend 98 = .ok (.goto (-35), 3) := by decide +kernel
theorem dX11_findSend_101 : decode cX11_findSend 101 = .ok (.aload_n 0, 1) := by decide +kernel
theorem dX11_findSend_102 : decode cX11_findSend 102 = .ok (.invokevirtual 185, 3) := by decide +kernel
theorem dX11_findSend_105 : decode cX11_findSend 105 = .ok (.istore 6, 2) := by decide +kernel
theorem dX11_findSend_107 : decode cX11_findSend 107 = .ok (.iload 6, 2) := by decide +kernel
theorem dX11_findSend_109 : decode cX11_findSend 109 = .ok (.iload_n 3, 1) := by decide +kernel
theorem dX11_findSend_110 : decode cX11_findSend 110 = .ok (.if_icmp .le 38, 3) := by decide +kernel
theorem dX11_findSend_113 : decode cX11_findSend 113 = .ok (.iload 6, 2) := by decide +kernel
theorem dX11_findSend_115 : decode cX11_findSend 115 = .ok (.istore_n 3, 1) := by decide +kernel
theorem dX11_findSend_116 : decode cX11_findSend 116 = .ok (.iconst 0, 1) := by decide +kernel
theorem dX11_findSend_117 : decode cX11_findSend 117 = .ok (.istore 7, 2) := by decide +kernel
theorem dX11_findSend_119 : decode cX11_findSend 119 = .ok (.iload 7, 2) := by decide +kernel
theorem dX11_findSend_121 : decode cX11_findSend 121 = .ok (.aload_n 0, 1) := by decide +kernel
theorem dX11_findSend_122 : decode cX11_findSend 122 = .ok (.getfield 86, 3) := by decide +kernel
theorem dX11_findSend_125 : decode cX11_findSend 125 = .ok (.if_icmp .ge 23, 3) := by decide +kernel
theorem dX11_findSend_128 : decode cX11_findSend 128 = .ok (.aload_n 0, 1) := by decide +kernel
theorem dX11_findSend_129 : decode cX11_findSend 129 = .ok (.getfield 64, 3) := by decide +kernel
theorem dX11_findSend_132 : decode cX11_findSend 132 = .ok (.iload 7, 2) := by decide +kernel
theorem dX11_findSend_134 : decode cX11_findSend 134 = .ok (.aload_n 0, 1) := by decide +kernel
theorem dX11_findSend_135 : decode cX11_findSend 135 = .ok (.getfield 61, 3) := by decide +kernel
theorem dX11_findSend_138 : decode cX11_findSend 138 = .ok (.iload 7, 2) := by decide +kernel
theorem dX11_findSend_140 : decode cX11_findSend 140 = .ok (.iaload, 1) := by decide +kernel
theorem dX11_findSend_141 : decode cX11_findSend 141 = .ok (.iastore, 1) := by decide +kernel
theorem dX11_findSend_142 : decode cX11_findSend 142 = .ok (.iinc 7 1, 3) := by decide +kernel
theorem dX11_findSend_145 : decode cX11_findSend 145 = .ok (.goto (-26), 3) := by decide +kernel
theorem dX11_findSend_148 : decode cX11_findSend 148 = .ok (.iinc 4 1, 3) := by decide +kernel
theorem dX11_findSend_151 : decode cX11_findSend 151 = .ok (.goto (-106), 3) := by decide +kernel
theorem dX11_findSend_154 : decode cX11_findSend 154 = .ok (.iload_n 3, 1) := by decide +kernel
theorem dX11_findSend_155 : decode cX11_findSend 155 = .ok (.ireturn, 1) := by decide +kernel
theorem dX11_send_0 : decode cX11_send 0 = .ok (.iload_n 1, 1) := by decide +kernel
theorem dX11_send_1 : decode cX11_send 1 = .ok (.invokestatic 160, 3) := by decide +kernel
theorem dX11_send_4 : decode cX11_send 4 = .ok (.ifCond .eq 12, 3) := by decide +kernel
theorem dX11_send_7 : decode cX11_send 7 = .ok (.iload_n 2, 1) := by decide +kernel
theorem dX11_send_8 : decode cX11_send 8 = .ok (.iconst (-1), 1) := by decide +kernel
theorem dX11_send_9 : decode cX11_send 9 = .ok (.iconst 4, 1) := by decide +kernel
theorem dX11_send_10 : decode cX11_send 10 = .ok (.invokestatic 82, 3) := by decide +kernel
theorem dX11_send_13 : decode cX11_send 13 = .ok (.ifCond .ne 6, 3) := by decide +kernel
theorem dX11_send_16 : decode cX11_send 16 = .ok (.bipush (-2), 2) := by decide +kernel
theorem dX11_send_18 : decode cX11_send 18 = .ok (.ireturn, 1) := by decide +kernel
theorem dX11_send_19 : decode cX11_send 19 = .ok (.aload_n 0, 1) := by decide +kernel
theorem dX11_send_20 : decode cX11_send 20 = .ok (.getfield 86, 3) := by decide +kernel
theorem dX11_send_23 : decode cX11_send 23 = .ok (.ifCond .ne 6, 3) := by decide +kernel
theorem dX11_send_26 : decode cX11_send 26 = .ok (.bipush (-3), 2) := by decide +kernel
theorem dX11_send_28 : decode cX11_send 28 = .ok (.ireturn, 1) := by decide +kernel
theorem dX11_send_29 : decode cX11_send 29 = .ok (.aload_n 0, 1) := by decide +kernel
theorem dX11_send_30 : decode cX11_send 30 = .ok (.iload_n 1, 1) := by decide +kernel
theorem dX11_send_31 : decode cX11_send 31 = .ok (.invokevirtual 189, 3) := by decide +kernel
theorem dX11_send_34 : decode cX11_send 34 = .ok (.istore_n 3, 1) := by decide +kernel
theorem dX11_send_35 : decode cX11_send 35 = .ok (.iload_n 2, 1) := by decide +kernel
theorem dX11_send_36 : decode cX11_send 36 = .ok (.iconst (-1), 1) := by decide +kernel
theorem dX11_send_37 : decode cX11_send 37 = .ok (.if_icmp .ne 5, 3) := by decide +kernel
theorem dX11_send_40 : decode cX11_send 40 = .ok (.iload_n 3, 1) := by decide +kernel
theorem dX11_send_41 : decode cX11_send 41 = .ok (.ireturn, 1) := by decide +kernel
theorem dX11_send_42 : decode cX11_send 42 = .ok (.iload_n 2, 1) := by decide +kernel
theorem dX11_send_43 : decode cX11_send 43 = .ok (.aload_n 0, 1) := by decide +kernel
theorem dX11_send_44 : decode cX11_send 44 = .ok (.getfield 86, 3) := by decide +kernel
theorem dX11_send_47 : decode cX11_send 47 = .ok (.if_icmp .ge 25, 3) := by decide +kernel
theorem dX11_send_50 : decode cX11_send 50 = .ok (.aload_n 0, 1) := by decide +kernel
theorem dX11_send_51 : decode cX11_send 51 = .ok (.getfield 64, 3) := by decide +kernel
theorem dX11_send_54 : decode cX11_send 54 = .ok (.iload_n 2, 1) := by decide +kernel
theorem dX11_send_55 : decode cX11_send 55 = .ok (.iaload, 1) := by decide +kernel
theorem dX11_send_56 : decode cX11_send 56 = .ok (.aload_n 0, 1) := by decide +kernel
theorem dX11_send_57 : decode cX11_send 57 = .ok (.getfield 125, 3) := by decide +kernel
theorem dX11_send_60 : decode cX11_send 60 = .ok (.if_icmp .ge 12, 3) := by decide +kernel
theorem dX11_send_63 : decode cX11_send 63 = .ok (.aload_n 0, 1) := by decide +kernel
theorem dX11_send_64 : decode cX11_send 64 = .ok (.getfield 64, 3) := by decide +kernel
theorem dX11_send_67 : decode cX11_send 67 = .ok (.iload_n 2, 1) := by decide +kernel
theorem dX11_send_68 : decode cX11_send 68 = .ok (.iaload, 1) := by decide +kernel
theorem dX11_send_69 : decode cX11_send 69 = .ok (.goto 5, 3) := by decide +kernel
theorem dX11_send_72 : decode cX11_send 72 = .ok (.bipush (-9), 2) := by decide +kernel
theorem dX11_send_74 : decode cX11_send 74 = .ok (.ireturn, 1) := by decide +kernel
theorem dX11_reading_0 : decode cX11_reading 0 = .ok (.aload_n 0, 1) := by decide +kernel
theorem dX11_reading_1 : decode cX11_reading 1 = .ok (.iload_n 1, 1) := by decide +kernel
theorem dX11_reading_2 : decode cX11_reading 2 = .ok (.invokevirtual 148, 3) := by decide +kernel
theorem dX11_reading_5 : decode cX11_reading 5 = .ok (.ifCond .ne 5, 3) := by decide +kernel
theorem dX11_reading_8 : decode cX11_reading 8 = .ok (.iconst (-1), 1) := by decide +kernel
theorem dX11_reading_9 : decode cX11_reading 9 = .ok (.ireturn, 1) := by decide +kernel
theorem dX11_reading_10 : decode cX11_reading 10 = .ok (.iload_n 2, 1) := by decide +kernel
theorem dX11_reading_11 : decode cX11_reading 11 = .ok (.invokestatic 160, 3) := by decide +kernel
theorem dX11_reading_14 : decode cX11_reading 14 = .ok (.ifCond .eq 13, 3) := by decide +kernel
theorem dX11_reading_17 : decode cX11_reading 17 = .ok (.iload_n 3, 1) := by decide +kernel
theorem dX11_reading_18 : decode cX11_reading 18 = .ok (.iconst 0, 1) := by decide +kernel
theorem dX11_reading_19 : decode cX11_reading 19 = .ok (.bipush 40, 2) := by decide +kernel
theorem dX11_reading_21 : decode cX11_reading 21 = .ok (.invokestatic 82, 3) := by decide +kernel
theorem dX11_reading_24 : decode cX11_reading 24 = .ok (.ifCond .ne 6, 3) := by decide +kernel
theorem dX11_reading_27 : decode cX11_reading 27 = .ok (.bipush (-2), 2) := by decide +kernel
theorem dX11_reading_29 : decode cX11_reading 29 = .ok (.ireturn, 1) := by decide +kernel
theorem dX11_reading_30 : decode cX11_reading 30 = .ok (.aload_n 0, 1) := by decide +kernel
theorem dX11_reading_31 : decode cX11_reading 31 = .ok (.getfield 128, 3) := by decide +kernel
theorem dX11_reading_34 : decode cX11_reading 34 = .ok (.bipush 8, 2) := by decide +kernel
theorem dX11_reading_36 : decode cX11_reading 36 = .ok (.if_icmp .ne 6, 3) := by decide +kernel
theorem dX11_reading_39 : decode cX11_reading 39 = .ok (.bipush (-4), 2) := by decide +kernel
theorem dX11_reading_41 : decode cX11_reading 41 = .ok (.ireturn, 1) := by decide +kernel
theorem dX11_reading_42 : decode cX11_reading 42 = .ok (.aload_n 0, 1) := by decide +kernel
theorem dX11_reading_43 : decode cX11_reading 43 = .ok (.getfield 67, 3) := by decide +kernel
theorem dX11_reading_46 : decode cX11_reading 46 = .ok (.aload_n 0, 1) := by decide +kernel
theorem dX11_reading_47 : decode cX11_reading 47 = .ok (.getfield 128, 3) := by decide +kernel
theorem dX11_reading_50 : decode cX11_reading 50 = .ok (.iload_n 1, 1) := by decide +kernel
theorem dX11_reading_51 : decode cX11_reading 51 = .ok (.iastore, 1) := by decide +kernel
theorem dX11_reading_52 : decode cX11_reading 52 = .ok (.aload_n 0, 1) := by decide +kernel
theorem dX11_reading_53 : decode cX11_reading 53 = .ok (.getfield 70, 3) := by decide +kernel
theorem dX11_reading_56 : decode cX11_reading 56 = .ok (.aload_n 0, 1) := by decide +kernel
theorem dX11_reading_57 : decode cX11_reading 57 = .ok (.getfield 128, 3) := by decide +kernel
theorem dX11_reading_60 : decode cX11_reading 60 = .ok (.iload_n 2, 1) := by decide +kernel
theorem dX11_reading_61 : decode cX11_reading 61 = .ok (.iastore, 1) := by decide +kernel
theorem dX11_reading_62 : decode cX11_reading 62 = .ok (.aload_n 0, 1) := by decide +kernel
theorem dX11_reading_63 : decode cX11_reading 63 = .ok (.getfield 73, 3) := by decide +kernel
theorem dX11_reading_66 : decode cX11_reading 66 = .ok (.aload_n 0, 1) := by decide +kernel
theorem dX11_reading_67 : decode cX11_reading 67 = .ok (.getfield 128, 3) := by decide +kernel
theorem dX11_reading_70 : decode cX11_reading 70 = .ok (.iload_n 3, 1) := by decide +kernel
theorem dX11_reading_71 : decode cX11_reading 71 = .ok (.iastore, 1) := by decide +kernel
theorem dX11_reading_72 : decode cX11_reading 72 = .ok (.aload_n 0, 1) := by decide +kernel
theorem dX11_reading_73 : decode cX11_reading 73 = .ok (.dup, 1) := by decide +kernel
theorem dX11_reading_74 : decode cX11_reading 74 = .ok (.getfield 128, 3) := by decide +kernel
theorem dX11_reading_77 : decode cX11_reading 77 = .ok (.iconst 1, 1) := by decide +kernel
theorem dX11_reading_78 : decode cX11_reading 78 = .ok (.iadd, 1) := by decide +kernel
theorem dX11_reading_79 : decode cX11_reading 79 = .ok (.putfield 128, 3) := by decide +kernel
theorem dX11_reading_82 : decode cX11_reading 82 = .ok (.aload_n 0, 1) := by decide +kernel
theorem dX11_reading_83 : decode cX11_reading 83 = .ok (.getfield 128, 3) := by decide +kernel
theorem dX11_reading_86 : decode cX11_reading 86 = .ok (.iconst 1, 1) := by decide +kernel
theorem dX11_reading_87 : decode cX11_reading 87 = .ok (.isub, 1) := by decide +kernel
theorem dX11_reading_88 : decode cX11_reading 88 = .ok (.ireturn, 1) := by decide +kernel
theorem dX11_back_0 : decode cX11_back 0 = .ok (.iload_n 1, 1) := by decide +kernel
theorem dX11_back_1 : decode cX11_back 1 = .ok (.iconst 0, 1) := by decide +kernel
theorem dX11_back_2 : decode cX11_back 2 = .ok (.aload_n 0, 1) := by decide +kernel
theorem dX11_back_3 : decode cX11_back 3 = .ok (.getfield 128, 3) := by decide +kernel
theorem dX11_back_6 : decode cX11_back 6 = .ok (.invokestatic 82, 3) := by decide +kernel
theorem dX11_back_9 : decode cX11_back 9 = .ok (.ifCond .ne 6, 3) := by decide +kernel
theorem dX11_back_12 : decode cX11_back 12 = .ok (.bipush (-2), 2) := by decide +kernel
theorem dX11_back_14 : decode cX11_back 14 = .ok (.ireturn, 1) := by decide +kernel
theorem dX11_back_15 : decode cX11_back 15 = .ok (.aload_n 0, 1) := by decide +kernel
theorem dX11_back_16 : decode cX11_back 16 = .ok (.dup, 1) := by decide +kernel
theorem dX11_back_17 : decode cX11_back 17 = .ok (.getfield 128, 3) := by decide +kernel
theorem dX11_back_20 : decode cX11_back 20 = .ok (.iload_n 1, 1) := by decide +kernel
theorem dX11_back_21 : decode cX11_back 21 = .ok (.isub, 1) := by decide +kernel
theorem dX11_back_22 : decode cX11_back 22 = .ok (.putfield 128, 3) := by decide +kernel
theorem dX11_back_25 : decode cX11_back 25 = .ok (.aload_n 0, 1) := by decide +kernel
theorem dX11_back_26 : decode cX11_back 26 = .ok (.getfield 128, 3) := by decide +kernel
theorem dX11_back_29 : decode cX11_back 29 = .ok (.ireturn, 1) := by decide +kernel
theorem dX11_areSo_0 : decode cX11_areSo 0 = .ok (.iconst 0, 1) := by decide +kernel
theorem dX11_areSo_1 : decode cX11_areSo 1 = .ok (.istore_n 1, 1) := by decide +kernel
theorem dX11_areSo_2 : decode cX11_areSo 2 = .ok (.iload_n 1, 1) := by decide +kernel
theorem dX11_areSo_3 : decode cX11_areSo 3 = .ok (.aload_n 0, 1) := by decide +kernel
theorem dX11_areSo_4 : decode cX11_areSo 4 = .ok (.getfield 128, 3) := by decide +kernel
theorem dX11_areSo_7 : decode cX11_areSo 7 = .ok (.if_icmp .ge 37, 3) := by decide +kernel
theorem dX11_areSo_10 : decode cX11_areSo 10 = .ok (.aload_n 0, 1) := by decide +kernel
theorem dX11_areSo_11 : decode cX11_areSo 11 = .ok (.aload_n 0, 1) := by decide +kernel
theorem dX11_areSo_12 : decode cX11_areSo 12 = .ok (.getfield 67, 3) := by decide +kernel
theorem dX11_areSo_15 : decode cX11_areSo 15 = .ok (.iload_n 1, 1) := by decide +kernel
theorem dX11_areSo_16 : decode cX11_areSo 16 = .ok (.iaload, 1) := by decide +kernel
theorem dX11_areSo_17 : decode cX11_areSo 17 = .ok (.aload_n 0, 1) := by decide +kernel
theorem dX11_areSo_18 : decode cX11_areSo 18 = .ok (.getfield 70, 3) := by decide +kernel
theorem dX11_areSo_21 : decode cX11_areSo 21 = .ok (.iload_n 1, 1) := by decide +kernel
theorem dX11_areSo_22 : decode cX11_areSo 22 = .ok (.iaload, 1) := by decide +kernel
theorem dX11_areSo_23 : decode cX11_areSo 23 = .ok (.iconst 1, 1) := by decide +kernel
theorem dX11_areSo_24 : decode cX11_areSo 24 = .ok (.invokevirtual 163, 3) := by decide +kernel
theorem dX11_areSo_27 : decode cX11_areSo 27 = .ok (.aload_n 0, 1) := by decide +kernel
theorem dX11_areSo_28 : decode cX11_areSo 28 = .ok (.getfield 73, 3) := by decide +kernel
theorem dX11_areSo_31 : decode cX11_areSo 31 = .ok (.iload_n 1, 1) := by decide +kernel
theorem dX11_areSo_32 : decode cX11_areSo 32 = .ok (.iaload, 1) := by decide +kernel
theorem dX11_areSo_33 : decode cX11_areSo 33 = .ok (.if_icmp .eq 5, 3) := by decide +kernel
theorem dX11_areSo_36 : decode cX11_areSo 36 = .ok (.iconst 0, 1) := by decide +kernel
theorem dX11_areSo_37 : decode cX11_areSo 37 = .ok (.ireturn, 1) := by decide +kernel
theorem dX11_areSo_38 : decode cX11_areSo 38 = .ok (.iinc 1 1, 3) := by decide +kernel
theorem dX11_areSo_41 : decode cX11_areSo 41 = .ok (.goto (-39), 3) := by decide +kernel
theorem dX11_areSo_44 : decode cX11_areSo 44 = .ok (.iconst 1, 1) := by decide +kernel
theorem dX11_areSo_45 : decode cX11_areSo 45 = .ok (.ireturn, 1) := by decide +kernel
theorem dX11_minds_0 : decode cX11_minds 0 = .ok (.aload_n 0, 1) := by decide +kernel
theorem dX11_minds_1 : decode cX11_minds 1 = .ok (.iload_n 1, 1) := by decide +kernel
theorem dX11_minds_2 : decode cX11_minds 2 = .ok (.invokevirtual 148, 3) := by decide +kernel
theorem dX11_minds_5 : decode cX11_minds 5 = .ok (.ifCond .ne 5, 3) := by decide +kernel
theorem dX11_minds_8 : decode cX11_minds 8 = .ok (.iconst (-1), 1) := by decide +kernel
theorem dX11_minds_9 : decode cX11_minds 9 = .ok (.ireturn, 1) := by decide +kernel
theorem dX11_minds_10 : decode cX11_minds 10 = .ok (.aload_n 0, 1) := by decide +kernel
theorem dX11_minds_11 : decode cX11_minds 11 = .ok (.getfield 28, 3) := by decide +kernel
theorem dX11_minds_14 : decode cX11_minds 14 = .ok (.iload_n 1, 1) := by decide +kernel
theorem dX11_minds_15 : decode cX11_minds 15 = .ok (.iaload, 1) := by decide +kernel
theorem dX11_minds_16 : decode cX11_minds 16 = .ok (.istore_n 2, 1) := by decide +kernel
theorem dX11_minds_17 : decode cX11_minds 17 = .ok (.iconst 0, 1) := by decide +kernel
theorem dX11_minds_18 : decode cX11_minds 18 = .ok (.istore_n 3, 1) := by decide +kernel
theorem dX11_minds_19 : decode cX11_minds 19 = .ok (.iconst 0, 1) := by decide +kernel
theorem dX11_minds_20 : decode cX11_minds 20 = .ok (.istore 4, 2) := by decide +kernel
theorem dX11_minds_22 : decode cX11_minds 22 = .ok (.iload 4, 2) := by decide +kernel
theorem dX11_minds_24 : decode cX11_minds 24 = .ok (.bipush 9, 2) := by decide +kernel
theorem dX11_minds_26 : decode cX11_minds 26 = .ok (.if_icmp .gt 35, 3) := by decide +kernel
theorem dX11_minds_29 : decode cX11_minds 29 = .ok (.aload_n 0, 1) := by decide +kernel
theorem dX11_minds_30 : decode cX11_minds 30 = .ok (.getfield 28, 3) := by decide +kernel
theorem dX11_minds_33 : decode cX11_minds 33 = .ok (.iload_n 1, 1) := by decide +kernel
theorem dX11_minds_34 : decode cX11_minds 34 = .ok (.iload 4, 2) := by decide +kernel
theorem dX11_minds_36 : decode cX11_minds 36 = .ok (.iastore, 1) := by decide +kernel
theorem dX11_minds_37 : decode cX11_minds 37 = .ok (.iload_n 3, 1) := by decide +kernel
theorem dX11_minds_38 : decode cX11_minds 38 = .ok (.aload_n 0, 1) := by decide +kernel
theorem dX11_minds_39 : decode cX11_minds 39 = .ok (.invokevirtual 192, 3) := by decide +kernel
theorem dX11_minds_42 : decode cX11_minds 42 = .ok (.ifCond .eq 10, 3) := by decide +kernel
theorem dX11_minds_45 : decode cX11_minds 45 = .ok (.iconst 1, 1) := by decide +kernel
theorem dX11_minds_46 : decode cX11_minds 46 = .ok (.iload 4, 2) := by decide +kernel
theorem dX11_minds_48 : decode cX11_minds 48 = .ok (.ishl, 1) := by decide +kernel
theorem dX11_minds_49 : decode cX11_minds 49 = .ok (.goto 4, 3) := by decide +kernel
theorem dX11_minds_52 : decode cX11_minds 52 = .ok (.iconst 0, 1) := by decide +kernel
theorem dX11_minds_53 : decode cX11_minds 53 = .ok (.ior, 1) := by decide +kernel
theorem dX11_minds_54 : decode cX11_minds 54 = .ok (.istore_n 3, 1) := by decide +kernel
theorem dX11_minds_55 : decode cX11_minds 55 = .ok (.iinc 4 1, 3) := by decide +kernel
theorem dX11_minds_58 : decode cX11_minds 58 = .ok (.goto (-36), 3) := by decide +kernel
theorem dX11_minds_61 : decode cX11_minds 61 = .ok (.aload_n 0, 1) := by decide +kernel
theorem dX11_minds_62 : decode cX11_minds 62 = .ok (.getfield 28, 3) := by decide +kernel
theorem dX11_minds_65 : decode cX11_minds 65 = .ok (.iload_n 1, 1) := by decide +kernel
theorem dX11_minds_66 : decode cX11_minds 66 = .ok (.iload_n 2, 1) := by decide +kernel
theorem dX11_minds_67 : decode cX11_minds 67 = .ok (.iastore, 1) := by decide +kernel
theorem dX11_minds_68 : decode cX11_minds 68 = .ok (.iload_n 3, 1) := by decide +kernel
theorem dX11_minds_69 : decode cX11_minds 69 = .ok (.ireturn, 1) := by decide +kernel
theorem dX11_kinds_0 : decode cX11_kinds 0 = .ok (.aload_n 0, 1) := by decide +kernel
theorem dX11_kinds_1 : decode cX11_kinds 1 = .ok (.iload_n 1, 1) := by decide +kernel
theorem dX11_kinds_2 : decode cX11_kinds 2 = .ok (.invokevirtual 148, 3) := by decide +kernel
theorem dX11_kinds_5 : decode cX11_kinds 5 = .ok (.ifCond .ne 5, 3) := by decide +kernel
theorem dX11_kinds_8 : decode cX11_kinds 8 = .ok (.iconst (-1), 1) := by decide +kernel
theorem dX11_kinds_9 : decode cX11_kinds 9 = .ok (.ireturn, 1) := by decide +kernel
theorem dX11_kinds_10 : decode cX11_kinds 10 = .ok (.aload_n 0, 1) := by decide +kernel
theorem dX11_kinds_11 : decode cX11_kinds 11 = .ok (.getfield 22, 3) := by decide +kernel
theorem dX11_kinds_14 : decode cX11_kinds 14 = .ok (.iload_n 1, 1) := by decide +kernel
theorem dX11_kinds_15 : decode cX11_kinds 15 = .ok (.iaload, 1) := by decide +kernel
theorem dX11_kinds_16 : decode cX11_kinds 16 = .ok (.istore_n 2, 1) := by decide +kernel
theorem dX11_kinds_17 : decode cX11_kinds 17 = .ok (.iconst 0, 1) := by decide +kernel
theorem dX11_kinds_18 : decode cX11_kinds 18 = .ok (.istore_n 3, 1) := by decide +kernel
theorem dX11_kinds_19 : decode cX11_kinds 19 = .ok (.iconst 0, 1) := by decide +kernel
theorem dX11_kinds_20 : decode cX11_kinds 20 = .ok (.istore 4, 2) := by decide +kernel
theorem dX11_kinds_22 : decode cX11_kinds 22 = .ok (.iload 4, 2) := by decide +kernel
theorem dX11_kinds_24 : decode cX11_kinds 24 = .ok (.iconst 3, 1) := by decide +kernel
theorem dX11_kinds_25 : decode cX11_kinds 25 = .ok (.if_icmp .ge 35, 3) := by decide +kernel
theorem dX11_kinds_28 : decode cX11_kinds 28 = .ok (.aload_n 0, 1) := by decide +kernel
theorem dX11_kinds_29 : decode cX11_kinds 29 = .ok (.getfield 22, 3) := by decide +kernel
theorem dX11_kinds_32 : decode cX11_kinds 32 = .ok (.iload_n 1, 1) := by decide +kernel
theorem dX11_kinds_33 : decode cX11_kinds 33 = .ok (.iload 4, 2) := by decide +kernel
theorem dX11_kinds_35 : decode cX11_kinds 35 = .ok (.iastore, 1) := by decide +kernel
theorem dX11_kinds_36 : decode cX11_kinds 36 = .ok (.iload_n 3, 1) := by decide +kernel
theorem dX11_kinds_37 : decode cX11_kinds 37 = .ok (.aload_n 0, 1) := by decide +kernel
theorem dX11_kinds_38 : decode cX11_kinds 38 = .ok (.invokevirtual 192, 3) := by decide +kernel
theorem dX11_kinds_41 : decode cX11_kinds 41 = .ok (.ifCond .eq 10, 3) := by decide +kernel
theorem dX11_kinds_44 : decode cX11_kinds 44 = .ok (.iconst 1, 1) := by decide +kernel
theorem dX11_kinds_45 : decode cX11_kinds 45 = .ok (.iload 4, 2) := by decide +kernel
theorem dX11_kinds_47 : decode cX11_kinds 47 = .ok (.ishl, 1) := by decide +kernel
theorem dX11_kinds_48 : decode cX11_kinds 48 = .ok (.goto 4, 3) := by decide +kernel
theorem dX11_kinds_51 : decode cX11_kinds 51 = .ok (.iconst 0, 1) := by decide +kernel
theorem dX11_kinds_52 : decode cX11_kinds 52 = .ok (.ior, 1) := by decide +kernel
theorem dX11_kinds_53 : decode cX11_kinds 53 = .ok (.istore_n 3, 1) := by decide +kernel
theorem dX11_kinds_54 : decode cX11_kinds 54 = .ok (.iinc 4 1, 3) := by decide +kernel
theorem dX11_kinds_57 : decode cX11_kinds 57 = .ok (.goto (-35), 3) := by decide +kernel
theorem dX11_kinds_60 : decode cX11_kinds 60 = .ok (.aload_n 0, 1) := by decide +kernel
theorem dX11_kinds_61 : decode cX11_kinds 61 = .ok (.getfield 22, 3) := by decide +kernel
theorem dX11_kinds_64 : decode cX11_kinds 64 = .ok (.iload_n 1, 1) := by decide +kernel
theorem dX11_kinds_65 : decode cX11_kinds 65 = .ok (.iload_n 2, 1) := by decide +kernel
theorem dX11_kinds_66 : decode cX11_kinds 66 = .ok (.iastore, 1) := by decide +kernel
theorem dX11_kinds_67 : decode cX11_kinds 67 = .ok (.iload_n 3, 1) := by decide +kernel
theorem dX11_kinds_68 : decode cX11_kinds 68 = .ok (.ireturn, 1) := by decide +kernel
theorem dX11_glooms_0 : decode cX11_glooms 0 = .ok (.aload_n 0, 1) := by decide +kernel
theorem dX11_glooms_1 : decode cX11_glooms 1 = .ok (.iload_n 1, 1) := by decide +kernel
theorem dX11_glooms_2 : decode cX11_glooms 2 = .ok (.invokevirtual 151, 3) := by decide +kernel
theorem dX11_glooms_5 : decode cX11_glooms 5 = .ok (.ifCond .ne 5, 3) := by decide +kernel
theorem dX11_glooms_8 : decode cX11_glooms 8 = .ok (.iconst (-1), 1) := by decide +kernel
theorem dX11_glooms_9 : decode cX11_glooms 9 = .ok (.ireturn, 1) := by decide +kernel
theorem dX11_glooms_10 : decode cX11_glooms 10 = .ok (.aload_n 0, 1) := by decide +kernel
theorem dX11_glooms_11 : decode cX11_glooms 11 = .ok (.getfield 19, 3) := by decide +kernel
theorem dX11_glooms_14 : decode cX11_glooms 14 = .ok (.iload_n 1, 1) := by decide +kernel
theorem dX11_glooms_15 : decode cX11_glooms 15 = .ok (.iaload, 1) := by decide +kernel
theorem dX11_glooms_16 : decode cX11_glooms 16 = .ok (.istore_n 2, 1) := by decide +kernel
theorem dX11_glooms_17 : decode cX11_glooms 17 = .ok (.iconst 0, 1) := by decide +kernel
theorem dX11_glooms_18 : decode cX11_glooms 18 = .ok (.istore_n 3, 1) := by decide +kernel
theorem dX11_glooms_19 : decode cX11_glooms 19 = .ok (.iconst 0, 1) := by decide +kernel
theorem dX11_glooms_20 : decode cX11_glooms 20 = .ok (.istore 4, 2) := by decide +kernel
theorem dX11_glooms_22 : decode cX11_glooms 22 = .ok (.iload 4, 2) := by decide +kernel
theorem dX11_glooms_24 : decode cX11_glooms 24 = .ok (.bipush 9, 2) := by decide +kernel
theorem dX11_glooms_26 : decode cX11_glooms 26 = .ok (.if_icmp .gt 35, 3) := by decide +kernel
theorem dX11_glooms_29 : decode cX11_glooms 29 = .ok (.aload_n 0, 1) := by decide +kernel
theorem dX11_glooms_30 : decode cX11_glooms 30 = .ok (.getfield 19, 3) := by decide +kernel
theorem dX11_glooms_33 : decode cX11_glooms 33 = .ok (.iload_n 1, 1) := by decide +kernel
theorem dX11_glooms_34 : decode cX11_glooms 34 = .ok (.iload 4, 2) := by decide +kernel
theorem dX11_glooms_36 : decode cX11_glooms 36 = .ok (.iastore, 1) := by decide +kernel
theorem dX11_glooms_37 : decode cX11_glooms 37 = .ok (.iload_n 3, 1) := by decide +kernel
theorem dX11_glooms_38 : decode cX11_glooms 38 = .ok (.aload_n 0, 1) := by decide +kernel
theorem dX11_glooms_39 : decode cX11_glooms 39 = .ok (.invokevirtual 192, 3) := by decide +kernel
theorem dX11_glooms_42 : decode cX11_glooms 42 = .ok (.ifCond .eq 10, 3) := by decide +kernel
theorem dX11_glooms_45 : decode cX11_glooms 45 = .ok (.iconst 1, 1) := by decide +kernel
theorem dX11_glooms_46 : decode cX11_glooms 46 = .ok (.iload 4, 2) := by decide +kernel
theorem dX11_glooms_48 : decode cX11_glooms 48 = .ok (.ishl, 1) := by decide +kernel
theorem dX11_glooms_49 : decode cX11_glooms 49 = .ok (.goto 4, 3) := by decide +kernel
theorem dX11_glooms_52 : decode cX11_glooms 52 = .ok (.iconst 0, 1) := by decide +kernel
theorem dX11_glooms_53 : decode cX11_glooms 53 = .ok (.ior, 1) := by decide +kernel
theorem dX11_glooms_54 : decode cX11_glooms 54 = .ok (.istore_n 3, 1) := by decide +kernel
theorem dX11_glooms_55 : decode cX11_glooms 55 = .ok (.iinc 4 1, 3) := by decide +kernel
theorem dX11_glooms_58 : decode cX11_glooms 58 = .ok (.goto (-36), 3) := by decide +kernel
theorem dX11_glooms_61 : decode cX11_glooms 61 = .ok (.aload_n 0, 1) := by decide +kernel
theorem dX11_glooms_62 : decode cX11_glooms 62 = .ok (.getfield 19, 3) := by decide +kernel
theorem dX11_glooms_65 : decode cX11_glooms 65 = .ok (.iload_n 1, 1) := by decide +kernel
theorem dX11_glooms_66 : decode cX11_glooms 66 = .ok (.iload_n 2, 1) := by decide +kernel
theorem dX11_glooms_67 : decode cX11_glooms 67 = .ok (.iastore, 1) := by decide +kernel
theorem dX11_glooms_68 : decode cX11_glooms 68 = .ok (.iload_n 3, 1) := by decide +kernel
theorem dX11_glooms_69 : decode cX11_glooms 69 = .ok (.ireturn, 1) := by decide +kernel
theorem dX11_inLeastTerms_0 : decode cX11_inLeastTerms 0 = .ok (.lload_n 0, 1) := by decide +kernel
theorem dX11_inLeastTerms_1 : decode cX11_inLeastTerms 1 = .ok (.lstore 5, 2) := by decide +kernel
theorem dX11_inLeastTerms_3 : decode cX11_inLeastTerms 3 = .ok (.lload_n 2, 1) := by decide +kernel
theorem dX11_inLeastTerms_4 : decode cX11_inLeastTerms 4 = .ok (.lstore 7, 2) := by decide +kernel
theorem dX11_inLeastTerms_6 : decode cX11_inLeastTerms 6 = .ok (.lload 7, 2) := by decide +kernel
theorem dX11_inLeastTerms_8 : decode cX11_inLeastTerms 8 = .ok (.lconst 0, 1) := by decide +kernel
theorem dX11_inLeastTerms_9 : decode cX11_inLeastTerms 9 = .ok (.lcmp, 1) := by decide +kernel
theorem dX11_inLeastTerms_10 : decode cX11_inLeastTerms 10 = .ok (.ifCond .eq 21, 3) := by decide +kernel
theorem dX11_inLeastTerms_13 : decode cX11_inLeastTerms 13 = .ok (.lload 5, 2) := by decide +kernel
theorem dX11_inLeastTerms_15 : decode cX11_inLeastTerms 15 = .ok (.lload 7, 2) := by decide +kernel
theorem dX11_inLeastTerms_17 : decode cX11_inLeastTerms 17 = .ok (.lrem, 1) := by decide +kernel
theorem dX11_inLeastTerms_18 : decode cX11_inLeastTerms 18 = .ok (.lstore 9, 2) := by decide +kernel
theorem dX11_inLeastTerms_20 : decode cX11_inLeastTerms 20 = .ok (.lload 7, 2) := by decide +kernel
theorem dX11_inLeastTerms_22 : decode cX11_inLeastTerms 22 = .ok (.lstore 5, 2) := by decide +kernel
theorem dX11_inLeastTerms_24 : decode cX11_inLeastTerms 24 = .ok (.lload 9, 2) := by decide +kernel
theorem dX11_inLeastTerms_26 : decode cX11_inLeastTerms 26 = .ok (.lstore 7, 2) := by decide +kernel
theorem dX11_inLeastTerms_28 : decode cX11_inLeastTerms 28 = .ok (.goto (-22), 3) := by decide +kernel
theorem dX11_inLeastTerms_31 : decode cX11_inLeastTerms 31 = .ok (.iload 4, 2) := by decide +kernel
theorem dX11_inLeastTerms_33 : decode cX11_inLeastTerms 33 = .ok (.ifCond .ne 10, 3) := by decide +kernel
theorem dX11_inLeastTerms_36 : decode cX11_inLeastTerms 36 = .ok (.lload_n 0, 1) := by decide +kernel
theorem dX11_inLeastTerms_37 : decode cX11_inLeastTerms 37 = .ok (.lload 5, 2) := by decide +kernel
theorem dX11_inLeastTerms_39 : decode cX11_inLeastTerms 39 = .ok (.ldiv, 1) := by decide +kernel
theorem dX11_inLeastTerms_40 : decode cX11_inLeastTerms 40 = .ok (.goto 7, 3) := by decide +kernel
theorem dX11_inLeastTerms_43 : decode cX11_inLeastTerms 43 = .ok (.lload_n 2, 1) := by decide +kernel
theorem dX11_inLeastTerms_44 : decode cX11_inLeastTerms 44 = .ok (.lload 5, 2) := by decide +kernel
theorem dX11_inLeastTerms_46 : decode cX11_inLeastTerms 46 = .ok (.ldiv, 1) := by decide +kernel
theorem dX11_inLeastTerms_47 : decode cX11_inLeastTerms 47 = .ok (.lreturn, 1) := by decide +kernel
theorem dX11_odds_0 : decode cX11_odds 0 = .ok (.aload_n 0, 1) := by decide +kernel
theorem dX11_odds_1 : decode cX11_odds 1 = .ok (.iload_n 1, 1) := by decide +kernel
theorem dX11_odds_2 : decode cX11_odds 2 = .ok (.invokevirtual 148, 3) := by decide +kernel
theorem dX11_odds_5 : decode cX11_odds 5 = .ok (.ifCond .eq 22, 3) := by decide +kernel
theorem dX11_odds_8 : decode cX11_odds 8 = .ok (.iload_n 2, 1) := by decide +kernel
theorem dX11_odds_9 : decode cX11_odds 9 = .ok (.iconst 0, 1) := by decide +kernel
theorem dX11_odds_10 : decode cX11_odds 10 = .ok (.bipush 40, 2) := by decide +kernel
theorem dX11_odds_12 : decode cX11_odds 12 = .ok (.invokestatic 82, 3) := by decide +kernel
theorem dX11_odds_15 : decode cX11_odds 15 = .ok (.ifCond .eq 12, 3) := by decide +kernel
theorem dX11_odds_18 : decode cX11_odds 18 = .ok (.iload_n 3, 1) := by decide +kernel
theorem dX11_odds_19 : decode cX11_odds 19 = .ok (.iconst 0, 1) := by decide +kernel
theorem dX11_odds_20 : decode cX11_odds 20 = .ok (.iconst 1, 1) := by decide +kernel
theorem dX11_odds_21 : decode cX11_odds 21 = .ok (.invokestatic 82, 3) := by decide +kernel
theorem dX11_odds_24 : decode cX11_odds 24 = .ok (.ifCond .ne 7, 3) := by decide +kernel
theorem dX11_odds_27 : decode cX11_odds 27 = .ok (.ldc2_w 80, 3) := by decide +kernel
theorem dX11_odds_30 : decode cX11_odds 30 = .ok (.lreturn, 1) := by decide +kernel
theorem dX11_odds_31 : decode cX11_odds 31 = .ok (.iconst 0, 1) := by decide +kernel
theorem dX11_odds_32 : decode cX11_odds 32 = .ok (.istore 4, 2) := by decide +kernel
theorem dX11_odds_34 : decode cX11_odds 34 = .ok (.iconst 1, 1) := by decide +kernel
theorem dX11_odds_35 : decode cX11_odds 35 = .ok (.aload_n 0, 1) := by decide +kernel
theorem dX11_odds_36 : decode cX11_odds 36 = .ok (.getfield 89, 3) := by decide +kernel
theorem dX11_odds_39 : decode cX11_odds 39 = .ok (.ishl, 1) := by decide +kernel
theorem dX11_odds_40 : decode cX11_odds 40 = .ok (.istore 5, 2) := by decide +kernel
theorem dX11_odds_42 : decode cX11_odds 42 = .ok (.aload_n 0, 1) := by decide +kernel
theorem dX11_odds_43 : decode cX11_odds 43 = .ok (.iconst 0, 1) := by decide +kernel
theorem dX11_odds_44 : decode cX11_odds 44 = .ok (.putfield 154, 3) := by decide +kernel
theorem dX11_odds_47 : decode cX11_odds 47 = .ok (.aload_n 0, 1) := by decide +kernel
theorem dX11_odds_48 : decode cX11_odds 48 = .ok (.getfield 154, 3) := by decide +kernel
theorem dX11_odds_51 : decode cX11_odds 51 = .ok (.iload 5, 2) := by decide +kernel
theorem dX11_odds_53 : decode cX11_odds 53 = .ok (.if_icmp .ge 37, 3) := by decide +kernel
theorem dX11_odds_56 : decode cX11_odds 56 = .ok (.iload 4, 2) := by decide +kernel
theorem dX11_odds_58 : decode cX11_odds 58 = .ok (.aload_n 0, 1) := by decide +kernel
theorem dX11_odds_59 : decode cX11_odds 59 = .ok (.iload_n 1, 1) := by decide +kernel
theorem dX11_odds_60 : decode cX11_odds 60 = .ok (.iconst 0, 1) := by decide +kernel
theorem dX11_odds_61 : decode cX11_odds 61 = .ok (.iconst 1, 1) := by decide +kernel
theorem dX11_odds_62 : decode cX11_odds 62 = .ok (.invokevirtual 163, 3) := by decide +kernel
theorem dX11_odds_65 : decode cX11_odds 65 = .ok (.iload_n 2, 1) := by decide +kernel
theorem dX11_odds_66 : decode cX11_odds 66 = .ok (.if_icmp .lt 7, 3) := by decide +kernel
theorem dX11_odds_69 : decode cX11_odds 69 = .ok (.iconst 1, 1) := by decide +kernel
theorem dX11_odds_70 : decode cX11_odds 70 = .ok (.goto 4, 3) := by decide +kernel
theorem dX11_odds_73 : decode cX11_odds 73 = .ok (.iconst 0, 1) := by decide +kernel
theorem dX11_odds_74 : decode cX11_odds 74 = .ok (.iadd, 1) := by decide +kernel
theorem dX11_odds_75 : decode cX11_odds 75 = .ok (.istore 4, 2) := by decide +kernel
theorem dX11_odds_77 : decode cX11_odds 77 = .ok (.aload_n 0, 1) := by decide +kernel
theorem dX11_odds_78 : decode cX11_odds 78 = .ok (.dup, 1) := by decide +kernel
theorem dX11_odds_79 : decode cX11_odds 79 = .ok (.getfield 154, 3) := by decide +kernel
theorem dX11_odds_82 : decode cX11_odds 82 = .ok (.iconst 1, 1) := by decide +kernel
theorem dX11_odds_83 : decode cX11_odds 83 = .ok (.iadd, 1) := by decide +kernel
theorem dX11_odds_84 : decode cX11_odds 84 = .ok (.putfield 154, 3) := by decide +kernel
theorem dX11_odds_87 : decode cX11_odds 87 = .ok (.goto (-40), 3) := by decide +kernel
theorem dX11_odds_90 : decode cX11_odds 90 = .ok (.aload_n 0, 1) := by decide +kernel
theorem dX11_odds_91 : decode cX11_odds 91 = .ok (.iconst 0, 1) := by decide +kernel
theorem dX11_odds_92 : decode cX11_odds 92 = .ok (.putfield 154, 3) := by decide +kernel
theorem dX11_odds_95 : decode cX11_odds 95 = .ok (.iload 4, 2) := by decide +kernel
theorem dX11_odds_97 : decode cX11_odds 97 = .ok (.i2l, 1) := by decide +kernel
theorem dX11_odds_98 : decode cX11_odds 98 = .ok (.iload 5, 2) := by decide +kernel
theorem dX11_odds_100 : decode cX11_odds 100 = .ok (.i2l, 1) := by decide +kernel
theorem dX11_odds_101 : decode cX11_odds 101 = .ok (.iload_n 3, 1) := by decide +kernel
theorem dX11_odds_102 : decode cX11_odds 102 = .ok (.invokestatic 196, 3) := by decide +kernel
theorem dX11_odds_105 : decode cX11_odds 105 = .ok (.lreturn, 1) := by decide +kernel
theorem dX11_sheet_0 : decode cX11_sheet 0 = .ok (.aload_n 0, 1) := by decide +kernel
theorem dX11_sheet_1 : decode cX11_sheet 1 = .ok (.iconst 0, 1) := by decide +kernel
theorem dX11_sheet_2 : decode cX11_sheet 2 = .ok (.putfield 76, 3) := by decide +kernel
theorem dX11_sheet_5 : decode cX11_sheet 5 = .ok (.iload_n 1, 1) := by decide +kernel
theorem dX11_sheet_6 : decode cX11_sheet 6 = .ok (.invokestatic 95, 3) := by decide +kernel
theorem dX11_sheet_9 : decode cX11_sheet 9 = .ok (.ifCond .ne 5, 3) := by decide +kernel
theorem dX11_sheet_12 : decode cX11_sheet 12 = .ok (.iconst (-1), 1) := by decide +kernel
theorem dX11_sheet_13 : decode cX11_sheet 13 = .ok (.ireturn, 1) := by decide +kernel
theorem dX11_sheet_14 : decode cX11_sheet 14 = .ok (.iload_n 2, 1) := by decide +kernel
theorem dX11_sheet_15 : decode cX11_sheet 15 = .ok (.invokestatic 99, 3) := by decide +kernel
theorem dX11_sheet_18 : decode cX11_sheet 18 = .ok (.ifCond .eq 9, 3) := by decide +kernel
theorem dX11_sheet_21 : decode cX11_sheet 21 = .ok (.iload_n 3, 1) := by decide +kernel
theorem dX11_sheet_22 : decode cX11_sheet 22 = .ok (.bipush 60, 2) := by decide +kernel
theorem dX11_sheet_24 : decode cX11_sheet 24 = .ok (.if_icmp .le 6, 3) := by decide +kernel
theorem dX11_sheet_27 : decode cX11_sheet 27 = .ok (.bipush (-2), 2) := by decide +kernel
theorem dX11_sheet_29 : decode cX11_sheet 29 = .ok (.ireturn, 1) := by decide +kernel
theorem dX11_sheet_30 : decode cX11_sheet 30 = .ok (.iload_n 3, 1) := by decide +kernel
theorem dX11_sheet_31 : decode cX11_sheet 31 = .ok (.ifCond .ge 9, 3) := by decide +kernel
theorem dX11_sheet_34 : decode cX11_sheet 34 = .ok (.aload_n 0, 1) := by decide +kernel
theorem dX11_sheet_35 : decode cX11_sheet 35 = .ok (.iconst 4, 1) := by decide +kernel
theorem dX11_sheet_36 : decode cX11_sheet 36 = .ok (.invokevirtual 106, 3) := by decide +kernel
theorem dX11_sheet_39 : decode cX11_sheet 39 = .ok (.ireturn, 1) := by decide +kernel
theorem dX11_sheet_40 : decode cX11_sheet 40 = .ok (.aload_n 0, 1) := by decide +kernel
theorem dX11_sheet_41 : decode cX11_sheet 41 = .ok (.getfield 9, 3) := by decide +kernel
theorem dX11_sheet_44 : decode cX11_sheet 44 = .ok (.iload_n 1, 1) := by decide +kernel
theorem dX11_sheet_45 : decode cX11_sheet 45 = .ok (.iload_n 2, 1) := by decide +kernel
theorem dX11_sheet_46 : decode cX11_sheet 46 = .ok (.iastore, 1) := by decide +kernel
theorem dX11_sheet_47 : decode cX11_sheet 47 = .ok (.aload_n 0, 1) := by decide +kernel
theorem dX11_sheet_48 : decode cX11_sheet 48 = .ok (.getfield 13, 3) := by decide +kernel
theorem dX11_sheet_51 : decode cX11_sheet 51 = .ok (.iload_n 1, 1) := by decide +kernel
theorem dX11_sheet_52 : decode cX11_sheet 52 = .ok (.iload_n 3, 1) := by decide +kernel
theorem dX11_sheet_53 : decode cX11_sheet 53 = .ok (.iastore, 1) := by decide +kernel
theorem dX11_sheet_54 : decode cX11_sheet 54 = .ok (.iconst 0, 1) := by decide +kernel
theorem dX11_sheet_55 : decode cX11_sheet 55 = .ok (.istore 4, 2) := by decide +kernel
theorem dX11_sheet_57 : decode cX11_sheet 57 = .ok (.iload 4, 2) := by decide +kernel
theorem dX11_sheet_59 : decode cX11_sheet 59 = .ok (.bipush 60, 2) := by decide +kernel
theorem dX11_sheet_61 : decode cX11_sheet 61 = .ok (.if_icmp .ge 22, 3) := by decide +kernel
theorem dX11_sheet_64 : decode cX11_sheet 64 = .ok (.aload_n 0, 1) := by decide +kernel
theorem dX11_sheet_65 : decode cX11_sheet 65 = .ok (.getfield 16, 3) := by decide +kernel
theorem dX11_sheet_68 : decode cX11_sheet 68 = .ok (.bipush 60, 2) := by decide +kernel
theorem dX11_sheet_70 : decode cX11_sheet 70 = .ok (.iload_n 1, 1) := by decide +kernel
theorem dX11_sheet_71 : decode cX11_sheet 71 = .ok (.imul, 1) := by decide +kernel
theorem dX11_sheet_72 : decode cX11_sheet 72 = .ok (.iload 4, 2) := by decide +kernel
theorem dX11_sheet_74 : decode cX11_sheet 74 = .ok (.iadd, 1) := by decide +kernel
theorem dX11_sheet_75 : decode cX11_sheet 75 = .ok (.iconst 0, 1) := by decide +kernel
theorem dX11_sheet_76 : decode cX11_sheet 76 = .ok (.iastore, 1) := by decide +kernel
theorem dX11_sheet_77 : decode cX11_sheet 77 = .ok (.iinc 4 1, 3) := by decide +kernel
theorem dX11_sheet_80 : decode cX11_sheet 80 = .ok (.goto (-23), 3) := by decide +kernel
theorem dX11_sheet_83 : decode cX11_sheet 83 = .ok (.iconst 1, 1) := by decide +kernel
theorem dX11_sheet_84 : decode cX11_sheet 84 = .ok (.ireturn, 1) := by decide +kernel
theorem dX11_lose_0 : decode cX11_lose 0 = .ok (.iload_n 1, 1) := by decide +kernel
theorem dX11_lose_1 : decode cX11_lose 1 = .ok (.invokestatic 95, 3) := by decide +kernel
theorem dX11_lose_4 : decode cX11_lose 4 = .ok (.ifCond .ne 5, 3) := by decide +kernel
theorem dX11_lose_7 : decode cX11_lose 7 = .ok (.iconst (-1), 1) := by decide +kernel
theorem dX11_lose_8 : decode cX11_lose 8 = .ok (.ireturn, 1) := by decide +kernel
theorem dX11_lose_9 : decode cX11_lose 9 = .ok (.aload_n 0, 1) := by decide +kernel
theorem dX11_lose_10 : decode cX11_lose 10 = .ok (.getfield 9, 3) := by decide +kernel
theorem dX11_lose_13 : decode cX11_lose 13 = .ok (.iload_n 1, 1) := by decide +kernel
theorem dX11_lose_14 : decode cX11_lose 14 = .ok (.iaload, 1) := by decide +kernel
theorem dX11_lose_15 : decode cX11_lose 15 = .ok (.bipush (-9), 2) := by decide +kernel
theorem dX11_lose_17 : decode cX11_lose 17 = .ok (.if_icmp .ne 7, 3) := by decide +kernel
theorem dX11_lose_20 : decode cX11_lose 20 = .ok (.iconst 0, 1) := by decide +kernel
theorem dX11_lose_21 : decode cX11_lose 21 = .ok (.goto 4, 3) := by decide +kernel
theorem dX11_lose_24 : decode cX11_lose 24 = .ok (.iconst 1, 1) := by decide +kernel
theorem dX11_lose_25 : decode cX11_lose 25 = .ok (.istore_n 2, 1) := by decide +kernel
theorem dX11_lose_26 : decode cX11_lose 26 = .ok (.aload_n 0, 1) := by decide +kernel
theorem dX11_lose_27 : decode cX11_lose 27 = .ok (.getfield 9, 3) := by decide +kernel
theorem dX11_lose_30 : decode cX11_lose 30 = .ok (.iload_n 1, 1) := by decide +kernel
theorem dX11_lose_31 : decode cX11_lose 31 = .ok (.bipush (-9), 2) := by decide +kernel
theorem dX11_lose_33 : decode cX11_lose 33 = .ok (.iastore, 1) := by decide +kernel
theorem dX11_lose_34 : decode cX11_lose 34 = .ok (.iload_n 2, 1) := by decide +kernel
theorem dX11_lose_35 : decode cX11_lose 35 = .ok (.ireturn, 1) := by decide +kernel
theorem dX11_put_0 : decode cX11_put 0 = .ok (.aload_n 0, 1) := by decide +kernel
theorem dX11_put_1 : decode cX11_put 1 = .ok (.iconst 0, 1) := by decide +kernel
theorem dX11_put_2 : decode cX11_put 2 = .ok (.putfield 76, 3) := by decide +kernel
theorem dX11_put_5 : decode cX11_put 5 = .ok (.iload_n 1, 1) := by decide +kernel
theorem dX11_put_6 : decode cX11_put 6 = .ok (.invokestatic 95, 3) := by decide +kernel
theorem dX11_put_9 : decode cX11_put 9 = .ok (.ifCond .ne 5, 3) := by decide +kernel
theorem dX11_put_12 : decode cX11_put 12 = .ok (.iconst (-1), 1) := by decide +kernel
theorem dX11_put_13 : decode cX11_put 13 = .ok (.ireturn, 1) := by decide +kernel
theorem dX11_put_14 : decode cX11_put 14 = .ok (.aload_n 0, 1) := by decide +kernel
theorem dX11_put_15 : decode cX11_put 15 = .ok (.getfield 9, 3) := by decide +kernel
theorem dX11_put_18 : decode cX11_put 18 = .ok (.iload_n 1, 1) := by decide +kernel
theorem dX11_put_19 : decode cX11_put 19 = .ok (.iaload, 1) := by decide +kernel
theorem dX11_put_20 : decode cX11_put 20 = .ok (.bipush (-9), 2) := by decide +kernel
theorem dX11_put_22 : decode cX11_put 22 = .ok (.if_icmp .ne 9, 3) := by decide +kernel
theorem dX11_put_25 : decode cX11_put 25 = .ok (.aload_n 0, 1) := by decide +kernel
theorem dX11_put_26 : decode cX11_put 26 = .ok (.iconst 1, 1) := by decide +kernel
theorem dX11_put_27 : decode cX11_put 27 = .ok (.invokevirtual 106, 3) := by decide +kernel
theorem dX11_put_30 : decode cX11_put 30 = .ok (.ireturn, 1) := by decide +kernel
theorem dX11_put_31 : decode cX11_put 31 = .ok (.iload_n 2, 1) := by decide +kernel
theorem dX11_put_32 : decode cX11_put 32 = .ok (.iconst 0, 1) := by decide +kernel
theorem dX11_put_33 : decode cX11_put 33 = .ok (.aload_n 0, 1) := by decide +kernel
theorem dX11_put_34 : decode cX11_put 34 = .ok (.getfield 13, 3) := by decide +kernel
theorem dX11_put_37 : decode cX11_put 37 = .ok (.iload_n 1, 1) := by decide +kernel
theorem dX11_put_38 : decode cX11_put 38 = .ok (.iaload, 1) := by decide +kernel
theorem dX11_put_39 : decode cX11_put 39 = .ok (.iconst 1, 1) := by decide +kernel
theorem dX11_put_40 : decode cX11_put 40 = .ok (.isub, 1) := by decide +kernel
theorem dX11_put_41 : decode cX11_put 41 = .ok (.invokestatic 82, 3) := by decide +kernel
theorem dX11_put_44 : decode cX11_put 44 = .ok (.ifCond .ne 9, 3) := by decide +kernel
theorem dX11_put_47 : decode cX11_put 47 = .ok (.aload_n 0, 1) := by decide +kernel
theorem dX11_put_48 : decode cX11_put 48 = .ok (.iconst 3, 1) := by decide +kernel
theorem dX11_put_49 : decode cX11_put 49 = .ok (.invokevirtual 106, 3) := by decide +kernel
theorem dX11_put_52 : decode cX11_put 52 = .ok (.ireturn, 1) := by decide +kernel
theorem dX11_put_53 : decode cX11_put 53 = .ok (.aload_n 0, 1) := by decide +kernel
theorem dX11_put_54 : decode cX11_put 54 = .ok (.getfield 16, 3) := by decide +kernel
theorem dX11_put_57 : decode cX11_put 57 = .ok (.bipush 60, 2) := by decide +kernel
theorem dX11_put_59 : decode cX11_put 59 = .ok (.iload_n 1, 1) := by decide +kernel
theorem dX11_put_60 : decode cX11_put 60 = .ok (.imul, 1) := by decide +kernel
theorem dX11_put_61 : decode cX11_put 61 = .ok (.iload_n 2, 1) := by decide +kernel
theorem dX11_put_62 : decode cX11_put 62 = .ok (.iadd, 1) := by decide +kernel
theorem dX11_put_63 : decode cX11_put 63 = .ok (.aload_n 0, 1) := by decide +kernel
theorem dX11_put_64 : decode cX11_put 64 = .ok (.getfield 9, 3) := by decide +kernel
theorem dX11_put_67 : decode cX11_put 67 = .ok (.iload_n 1, 1) := by decide +kernel
theorem dX11_put_68 : decode cX11_put 68 = .ok (.iaload, 1) := by decide +kernel
theorem dX11_put_69 : decode cX11_put 69 = .ok (.ifCond .ne 8, 3) := by decide +kernel
theorem dX11_put_72 : decode cX11_put 72 = .ok (.iload_n 3, 1) := by decide +kernel
theorem dX11_put_73 : decode cX11_put 73 = .ok (.i2b, 1) := by decide +kernel
theorem dX11_put_74 : decode cX11_put 74 = .ok (.goto 19, 3) := by decide +kernel
theorem dX11_put_77 : decode cX11_put 77 = .ok (.aload_n 0, 1) := by decide +kernel
theorem dX11_put_78 : decode cX11_put 78 = .ok (.getfield 9, 3) := by decide +kernel
theorem dX11_put_81 : decode cX11_put 81 = .ok (.iload_n 1, 1) := by decide +kernel
theorem dX11_put_82 : decode cX11_put 82 = .ok (.iaload, 1) := by decide +kernel
theorem dX11_put_83 : decode cX11_put 83 = .ok (.iconst 1, 1) := by decide +kernel
theorem dX11_put_84 : decode cX11_put 84 = .ok (.if_icmp .ne 8, 3) := by decide +kernel
theorem dX11_put_87 : decode cX11_put 87 = .ok (.iload_n 3, 1) := by decide +kernel
theorem dX11_put_88 : decode cX11_put 88 = .ok (.i2s, 1) := by decide +kernel
theorem dX11_put_89 : decode cX11_put 89 = .ok (.goto 4, 3) := by decide +kernel
theorem dX11_put_92 : decode cX11_put 92 = .ok (.iload_n 3, 1) := by decide +kernel
theorem dX11_put_93 : decode cX11_put 93 = .ok (.iastore, 1) := by decide +kernel
theorem dX11_put_94 : decode cX11_put 94 = .ok (.iconst 1, 1) := by decide +kernel
theorem dX11_put_95 : decode cX11_put 95 = .ok (.ireturn, 1) := by decide +kernel
theorem dX11_cell_0 : decode cX11_cell 0 = .ok (.aload_n 0, 1) := by decide +kernel
theorem dX11_cell_1 : decode cX11_cell 1 = .ok (.iconst 0, 1) := by decide +kernel
theorem dX11_cell_2 : decode cX11_cell 2 = .ok (.putfield 76, 3) := by decide +kernel
theorem dX11_cell_5 : decode cX11_cell 5 = .ok (.iload_n 1, 1) := by decide +kernel
theorem dX11_cell_6 : decode cX11_cell 6 = .ok (.invokestatic 95, 3) := by decide +kernel
theorem dX11_cell_9 : decode cX11_cell 9 = .ok (.ifCond .eq 10, 3) := by decide +kernel
theorem dX11_cell_12 : decode cX11_cell 12 = .ok (.iload_n 3, 1) := by decide +kernel
theorem dX11_cell_13 : decode cX11_cell 13 = .ok (.invokestatic 99, 3) := by decide +kernel
theorem dX11_cell_16 : decode cX11_cell 16 = .ok (.ifCond .ne 7, 3) := by decide +kernel
theorem dX11_cell_19 : decode cX11_cell 19 = .ok (.ldc2_w 80, 3) := by decide +kernel
theorem dX11_cell_22 : decode cX11_cell 22 = .ok (.lreturn, 1) := by decide +kernel
theorem dX11_cell_23 : decode cX11_cell 23 = .ok (.aload_n 0, 1) := by decide +kernel
theorem dX11_cell_24 : decode cX11_cell 24 = .ok (.getfield 9, 3) := by decide +kernel
theorem dX11_cell_27 : decode cX11_cell 27 = .ok (.iload_n 1, 1) := by decide +kernel
theorem dX11_cell_28 : decode cX11_cell 28 = .ok (.iaload, 1) := by decide +kernel
theorem dX11_cell_29 : decode cX11_cell 29 = .ok (.bipush (-9), 2) := by decide +kernel
theorem dX11_cell_31 : decode cX11_cell 31 = .ok (.if_icmp .eq 19, 3) := by decide +kernel
theorem dX11_cell_34 : decode cX11_cell 34 = .ok (.aload_n 0, 1) := by decide +kernel
theorem dX11_cell_35 : decode cX11_cell 35 = .ok (.getfield 9, 3) := by decide +kernel
theorem dX11_cell_38 : decode cX11_cell 38 = .ok (.iload_n 1, 1) := by decide +kernel
theorem dX11_cell_39 : decode cX11_cell 39 = .ok (.iaload, 1) := by decide +kernel
theorem dX11_cell_40 : decode cX11_cell 40 = .ok (.iload_n 3, 1) := by decide +kernel
theorem dX11_cell_41 : decode cX11_cell 41 = .ok (.if_icmp .eq 9, 3) := by decide +kernel
theorem dX11_cell_44 : decode cX11_cell 44 = .ok (.aload_n 0, 1) := by decide +kernel
theorem dX11_cell_45 : decode cX11_cell 45 = .ok (.iconst 2, 1) := by decide +kernel
theorem dX11_cell_46 : decode cX11_cell 46 = .ok (.invokevirtual 200, 3) := by decide +kernel
theorem dX11_cell_49 : decode cX11_cell 49 = .ok (.lreturn, 1) := by decide +kernel
theorem dX11_cell_50 : decode cX11_cell 50 = .ok (.aload_n 0, 1) := by decide +kernel
theorem dX11_cell_51 : decode cX11_cell 51 = .ok (.getfield 9, 3) := by decide +kernel
theorem dX11_cell_54 : decode cX11_cell 54 = .ok (.iload_n 1, 1) := by decide +kernel
theorem dX11_cell_55 : decode cX11_cell 55 = .ok (.iaload, 1) := by decide +kernel
theorem dX11_cell_56 : decode cX11_cell 56 = .ok (.bipush (-9), 2) := by decide +kernel
theorem dX11_cell_58 : decode cX11_cell 58 = .ok (.if_icmp .ne 9, 3) := by decide +kernel
theorem dX11_cell_61 : decode cX11_cell 61 = .ok (.aload_n 0, 1) := by decide +kernel
theorem dX11_cell_62 : decode cX11_cell 62 = .ok (.iconst 1, 1) := by decide +kernel
theorem dX11_cell_63 : decode cX11_cell 63 = .ok (.invokevirtual 200, 3) := by decide +kernel
theorem dX11_cell_66 : decode cX11_cell 66 = .ok (.lreturn, 1) := by decide +kernel
theorem dX11_cell_67 : decode cX11_cell 67 = .ok (.iload_n 2, 1) := by decide +kernel
theorem dX11_cell_68 : decode cX11_cell 68 = .ok (.iconst 0, 1) := by decide +kernel
theorem dX11_cell_69 : decode cX11_cell 69 = .ok (.aload_n 0, 1) := by decide +kernel
theorem dX11_cell_70 : decode cX11_cell 70 = .ok (.getfield 13, 3) := by decide +kernel
theorem dX11_cell_73 : decode cX11_cell 73 = .ok (.iload_n 1, 1) := by decide +kernel
theorem dX11_cell_74 : decode cX11_cell 74 = .ok (.iaload, 1) := by decide +kernel
theorem dX11_cell_75 : decode cX11_cell 75 = .ok (.iconst 1, 1) := by decide +kernel
theorem dX11_cell_76 : decode cX11_cell 76 = .ok (.isub, 1) := by decide +kernel
theorem dX11_cell_77 : decode cX11_cell 77 = .ok (.invokestatic 82, 3) := by decide +kernel
theorem dX11_cell_80 : decode cX11_cell 80 = .ok (.ifCond .ne 9, 3) := by decide +kernel
theorem dX11_cell_83 : decode cX11_cell 83 = .ok (.aload_n 0, 1) := by decide +kernel
theorem dX11_cell_84 : decode cX11_cell 84 = .ok (.iconst 3, 1) := by decide +kernel
theorem dX11_cell_85 : decode cX11_cell 85 = .ok (.invokevirtual 200, 3) := by decide +kernel
theorem dX11_cell_88 : decode cX11_cell 88 = .ok (.lreturn, 1) := by decide +kernel
theorem dX11_cell_89 : decode cX11_cell 89 = .ok (.aload_n 0, 1) := by decide +kernel
theorem dX11_cell_90 : decode cX11_cell 90 = .ok (.getfield 16, 3) := by decide +kernel
theorem dX11_cell_93 : decode cX11_cell 93 = .ok (.bipush 60, 2) := by decide +kernel
theorem dX11_cell_95 : decode cX11_cell 95 = .ok (.iload_n 1, 1) := by decide +kernel
theorem dX11_cell_96 : decode cX11_cell 96 = .ok (.imul, 1) := by decide +kernel
theorem dX11_cell_97 : decode cX11_cell 97 = .ok (.iload_n 2, 1) := by decide +kernel
theorem dX11_cell_98 : decode cX11_cell 98 = .ok (.iadd, 1) := by decide +kernel
theorem dX11_cell_99 : decode cX11_cell 99 = .ok (.iaload, 1) := by decide +kernel
theorem dX11_cell_100 : decode cX11_cell 100 = .ok (.i2l, 1) := by decide +kernel
theorem dX11_cell_101 : decode cX11_cell 101 = .ok (.lreturn, 1) := by decide +kernel
theorem dX11_copy_0 : decode cX11_copy 0 = .ok (.aload_n 0, 1) := by decide +kernel
theorem dX11_copy_1 : decode cX11_copy 1 = .ok (.iconst 0, 1) := by decide +kernel
theorem dX11_copy_2 : decode cX11_copy 2 = .ok (.putfield 76, 3) := by decide +kernel
theorem dX11_copy_5 : decode cX11_copy 5 = .ok (.iload_n 1, 1) := by decide +kernel
theorem dX11_copy_6 : decode cX11_copy 6 = .ok (.invokestatic 95, 3) := by decide +kernel
theorem dX11_copy_9 : decode cX11_copy 9 = .ok (.ifCond .eq 10, 3) := by decide +kernel
theorem dX11_copy_12 : decode cX11_copy 12 = .ok (.iload_n 3, 1) := by decide +kernel
theorem dX11_copy_13 : decode cX11_copy 13 = .ok (.invokestatic 95, 3) := by decide +kernel
theorem dX11_copy_16 : decode cX11_copy 16 = .ok (.ifCond .ne 5, 3) := by decide +kernel
theorem dX11_copy_19 : decode cX11_copy 19 = .ok (.iconst (-1), 1) := by decide +kernel
theorem dX11_copy_20 : decode cX11_copy 20 = .ok (.ireturn, 1) := by decide +kernel
theorem dX11_copy_21 : decode cX11_copy 21 = .ok (.aload_n 0, 1) := by decide +kernel
theorem dX11_copy_22 : decode cX11_copy 22 = .ok (.getfield 9, 3) := by decide +kernel
theorem dX11_copy_25 : decode cX11_copy 25 = .ok (.iload_n 1, 1) := by decide +kernel
theorem dX11_copy_26 : decode cX11_copy 26 = .ok (.iaload, 1) := by decide +kernel
theorem dX11_copy_27 : decode cX11_copy 27 = .ok (.bipush (-9), 2) := by decide +kernel
theorem dX11_copy_29 : decode cX11_copy 29 = .ok (.if_icmp .eq 14, 3) := by decide +kernel
theorem dX11_copy_32 : decode cX11_copy 32 = .ok (.aload_n 0, 1) := by decide +kernel
theorem dX11_copy_33 : decode cX11_copy 33 = .ok (.getfield 9, 3) := by decide +kernel
theorem dX11_copy_36 : decode cX11_copy 36 = .ok (.iload_n 3, 1) := by decide +kernel
theorem dX11_copy_37 : decode cX11_copy 37 = .ok (.iaload, 1) := by decide +kernel
theorem dX11_copy_38 : decode cX11_copy 38 = .ok (.bipush (-9), 2) := by decide +kernel
theorem dX11_copy_40 : decode cX11_copy 40 = .ok (.if_icmp .ne 9, 3) := by decide +kernel
theorem dX11_copy_43 : decode cX11_copy 43 = .ok (.aload_n 0, 1) := by decide +kernel
theorem dX11_copy_44 : decode cX11_copy 44 = .ok (.iconst 1, 1) := by decide +kernel
theorem dX11_copy_45 : decode cX11_copy 45 = .ok (.invokevirtual 106, 3) := by decide +kernel
theorem dX11_copy_48 : decode cX11_copy 48 = .ok (.ireturn, 1) := by decide +kernel
theorem dX11_copy_49 : decode cX11_copy 49 = .ok (.aload_n 0, 1) := by decide +kernel
theorem dX11_copy_50 : decode cX11_copy 50 = .ok (.getfield 9, 3) := by decide +kernel
theorem dX11_copy_53 : decode cX11_copy 53 = .ok (.iload_n 1, 1) := by decide +kernel
theorem dX11_copy_54 : decode cX11_copy 54 = .ok (.iaload, 1) := by decide +kernel
theorem dX11_copy_55 : decode cX11_copy 55 = .ok (.aload_n 0, 1) := by decide +kernel
theorem dX11_copy_56 : decode cX11_copy 56 = .ok (.getfield 9, 3) := by decide +kernel
theorem dX11_copy_59 : decode cX11_copy 59 = .ok (.iload_n 3, 1) := by decide +kernel
theorem dX11_copy_60 : decode cX11_copy 60 = .ok (.iaload, 1) := by decide +kernel
theorem dX11_copy_61 : decode cX11_copy 61 = .ok (.if_icmp .eq 9, 3) := by decide +kernel
theorem dX11_copy_64 : decode cX11_copy 64 = .ok (.aload_n 0, 1) := by decide +kernel
theorem dX11_copy_65 : decode cX11_copy 65 = .ok (.iconst 2, 1) := by decide +kernel
theorem dX11_copy_66 : decode cX11_copy 66 = .ok (.invokevirtual 106, 3) := by decide +kernel
theorem dX11_copy_69 : decode cX11_copy 69 = .ok (.ireturn, 1) := by decide +kernel
theorem dX11_copy_70 : decode cX11_copy 70 = .ok (.iload_n 2, 1) := by decide +kernel
theorem dX11_copy_71 : decode cX11_copy 71 = .ok (.ifCond .lt 38, 3) := by decide +kernel
theorem dX11_copy_74 : decode cX11_copy 74 = .ok (.iload 4, 2) := by decide +kernel
theorem dX11_copy_76 : decode cX11_copy 76 = .ok (.ifCond .lt 33, 3) := by decide +kernel
theorem dX11_copy_79 : decode cX11_copy 79 = .ok (.iload 5, 2) := by decide +kernel
theorem dX11_copy_81 : decode cX11_copy 81 = .ok (.ifCond .lt 28, 3) := by decide +kernel
theorem dX11_copy_84 : decode cX11_copy 84 = .ok (.iload_n 2, 1) := by decide +kernel
theorem dX11_copy_85 : decode cX11_copy 85 = .ok (.aload_n 0, 1) := by decide +kernel
theorem dX11_copy_86 : decode cX11_copy 86 = .ok (.getfield 13, 3) := by decide +kernel
theorem dX11_copy_89 : decode cX11_copy 89 = .ok (.iload_n 1, 1) := by decide +kernel
theorem dX11_copy_90 : decode cX11_copy 90 = .ok (.iaload, 1) := by decide +kernel
theorem dX11_copy_91 : decode cX11_copy 91 = .ok (.if_icmp .gt 18, 3) := by decide +kernel
theorem dX11_copy_94 : decode cX11_copy 94 = .ok (.iload 4, 2) := by decide +kernel
theorem dX11_copy_96 : decode cX11_copy 96 = .ok (.aload_n 0, 1) := by decide +kernel
theorem dX11_copy_97 : decode cX11_copy 97 = .ok (.getfield 13, 3) := by decide +kernel
theorem dX11_copy_100 : decode cX11_copy 100 = .ok (.iload_n 3, 1) := by decide +kernel
theorem dX11_copy_101 : decode cX11_copy 101 = .ok (.iaload, 1) := by decide +kernel
theorem dX11_copy_102 : decode cX11_copy 102 = .ok (.if_icmp .gt 7, 3) := by decide +kernel
theorem dX11_copy_105 : decode cX11_copy 105 = .ok (.iconst 1, 1) := by decide +kernel
theorem dX11_copy_106 : decode cX11_copy 106 = .ok (.goto 4, 3) := by decide +kernel
theorem dX11_copy_109 : decode cX11_copy 109 = .ok (.iconst 0, 1) := by decide +kernel
theorem dX11_copy_110 : decode cX11_copy 110 = .ok (.istore 6, 2) := by decide +kernel
theorem dX11_copy_112 : decode cX11_copy 112 = .ok (.iload 6, 2) := by decide +kernel
theorem dX11_copy_114 : decode cX11_copy 114 = .ok (.ifCond .eq 30, 3) := by decide +kernel
theorem dX11_copy_117 : decode cX11_copy 117 = .ok (.iload 5, 2) := by decide +kernel
theorem dX11_copy_119 : decode cX11_copy 119 = .ok (.aload_n 0, 1) := by decide +kernel
theorem dX11_copy_120 : decode cX11_copy 120 = .ok (.getfield 13, 3) := by decide +kernel
theorem dX11_copy_123 : decode cX11_copy 123 = .ok (.iload_n 1, 1) := by decide +kernel
theorem dX11_copy_124 : decode cX11_copy 124 = .ok (.iaload, 1) := by decide +kernel
theorem dX11_copy_125 : decode cX11_copy 125 = .ok (.iload_n 2, 1) := by decide +kernel
theorem dX11_copy_126 : decode cX11_copy 126 = .ok (.isub, 1) := by decide +kernel
theorem dX11_copy_127 : decode cX11_copy 127 = .ok (.if_icmp .gt 17, 3) := by decide +kernel
theorem dX11_copy_130 : decode cX11_copy 130 = .ok (.iload 5, 2) := by decide +kernel
theorem dX11_copy_132 : decode cX11_copy 132 = .ok (.aload_n 0, 1) := by decide +kernel
theorem dX11_copy_133 : decode cX11_copy 133 = .ok (.getfield 13, 3) := by decide +kernel
theorem dX11_copy_136 : decode cX11_copy 136 = .ok (.iload_n 3, 1) := by decide +kernel
theorem dX11_copy_137 : decode cX11_copy 137 = .ok (.iaload, 1) := by decide +kernel
theorem dX11_copy_138 : decode cX11_copy 138 = .ok (.iload 4, 2) := by decide +kernel
theorem dX11_copy_140 : decode cX11_copy 140 = .ok (.isub, 1) := by decide +kernel
theorem dX11_copy_141 : decode cX11_copy 141 = .ok (.if_icmp .le 9, 3) := by decide +kernel
theorem dX11_copy_144 : decode cX11_copy 144 = .ok (.aload_n 0, 1) := by decide +kernel
theorem dX11_copy_145 : decode cX11_copy 145 = .ok (.iconst 3, 1) := by decide +kernel
theorem dX11_copy_146 : decode cX11_copy 146 = .ok (.invokevirtual 106, 3) := by decide +kernel
theorem dX11_copy_149 : decode cX11_copy 149 = .ok (.ireturn, 1) := by decide +kernel
theorem dX11_copy_150 : decode cX11_copy 150 = .ok (.iload_n 2, 1) := by decide +kernel
theorem dX11_copy_151 : decode cX11_copy 151 = .ok (.iload 4, 2) := by decide +kernel
theorem dX11_copy_153 : decode cX11_copy 153 = .ok (.if_icmp .ge 7, 3) := by decide +kernel
theorem dX11_copy_156 : decode cX11_copy 156 = .ok (.iconst 1, 1) := by decide +kernel
theorem dX11_copy_157 : decode cX11_copy 157 = .ok (.goto 4, 3) := by decide +kernel
theorem dX11_copy_160 : decode cX11_copy 160 = .ok (.iconst 0, 1) := by decide +kernel
theorem dX11_copy_161 : decode cX11_copy 161 = .ok (.istore 7, 2) := by decide +kernel
theorem dX11_copy_163 : decode cX11_copy 163 = .ok (.iconst 0, 1) := by decide +kernel
theorem dX11_copy_164 : decode cX11_copy 164 = .ok (.istore 8, 2) := by decide +kernel
theorem dX11_copy_166 : decode cX11_copy 166 = .ok (.iload 8, 2) := by decide +kernel
theorem dX11_copy_168 : decode cX11_copy 168 = .ok (.iload 5, 2) := by decide +kernel
theorem dX11_copy_170 : decode cX11_copy 170 = .ok (.if_icmp .ge 57, 3) := by decide +kernel
theorem dX11_copy_173 : decode cX11_copy 173 = .ok (.iload 7, 2) := by decide +kernel
theorem dX11_copy_175 : decode cX11_copy 175 = .ok (.ifCond .eq 13, 3) := by decide +kernel
theorem dX11_copy_178 : decode cX11_copy 178 = .ok (.iload 5, 2) := by decide +kernel
theorem dX11_copy_180 : decode cX11_copy 180 = .ok (.iconst 1, 1) := by decide +kernel
theorem dX11_copy_181 : decode cX11_copy 181 = .ok (.isub, 1) := by decide +kernel
theorem dX11_copy_182 : decode cX11_copy 182 = .ok (.iload 8, 2) := by decide +kernel
theorem dX11_copy_184 : decode cX11_copy 184 = .ok (.isub, 1) := by decide +kernel
theorem dX11_copy_185 : decode cX11_copy 185 = .ok (.goto 5, 3) := by decide +kernel
theorem dX11_copy_188 : decode cX11_copy 188 = .ok (.iload 8, 2) := by decide +kernel
theorem dX11_copy_190 : decode cX11_copy 190 = .ok (.istore 9, 2) := by decide +kernel
theorem dX11_copy_192 : decode cX11_copy 192 = .ok (.aload_n 0, 1) := by decide +kernel
theorem dX11_copy_193 : decode cX11_copy 193 = .ok (.getfield 16, 3) := by decide +kernel
theorem dX11_copy_196 : decode cX11_copy 196 = .ok (.bipush 60, 2) := by decide +kernel
theorem dX11_copy_198 : decode cX11_copy 198 = .ok (.iload_n 3, 1) := by decide +kernel
theorem dX11_copy_199 : decode cX11_copy 199 = .ok (.imul, 1) := by decide +kernel
theorem dX11_copy_200 : decode cX11_copy 200 = .ok (.iload 4, 2) := by decide +kernel
theorem dX11_copy_202 : decode cX11_copy 202 = .ok (.iadd, 1) := by decide +kernel
theorem dX11_copy_203 : decode cX11_copy 203 = .ok (.iload 9, 2) := by decide +kernel
theorem dX11_copy_205 : decode cX11_copy 205 = .ok (.iadd, 1) := by decide +kernel
theorem dX11_copy_206 : decode cX11_copy 206 = .ok (.aload_n 0, 1) := by decide +kernel
theorem dX11_copy_207 : decode cX11_copy 207 = .ok (.getfield 16, 3) := by decide +kernel
theorem dX11_copy_210 : decode cX11_copy 210 = .ok (.bipush 60, 2) := by decide +kernel
theorem dX11_copy_212 : decode cX11_copy 212 = .ok (.iload_n 1, 1) := by decide +kernel
theorem dX11_copy_213 : decode cX11_copy 213 = .ok (.imul, 1) := by decide +kernel
theorem dX11_copy_214 : decode cX11_copy 214 = .ok (.iload_n 2, 1) := by decide +kernel
theorem dX11_copy_215 : decode cX11_copy 215 = .ok (.iadd, 1) := by decide +kernel
theorem dX11_copy_216 : decode cX11_copy 216 = .ok (.iload 9, 2) := by decide +kernel
theorem dX11_copy_218 : decode cX11_copy 218 = .ok (.iadd, 1) := by decide +kernel
theorem dX11_copy_219 : decode cX11_copy 219 = .ok (.iaload, 1) := by decide +kernel
theorem dX11_copy_220 : decode cX11_copy 220 = .ok (.iastore, 1) := by decide +kernel
theorem dX11_copy_221 : decode cX11_copy 221 = .ok (.iinc 8 1, 3) := by decide +kernel
theorem dX11_copy_224 : decode cX11_copy 224 = .ok (.goto (-58), 3) := by decide +kernel
theorem dX11_copy_227 : decode cX11_copy 227 = .ok (.iload 5, 2) := by decide +kernel
theorem dX11_copy_229 : decode cX11_copy 229 = .ok (.ireturn, 1) := by decide +kernel
theorem dX11_begins_0 : decode cX11_begins 0 = .ok (.aload_n 0, 1) := by decide +kernel
theorem dX11_begins_1 : decode cX11_begins 1 = .ok (.bipush 31, 2) := by decide +kernel
theorem dX11_begins_3 : decode cX11_begins 3 = .ok (.aload_n 0, 1) := by decide +kernel
theorem dX11_begins_4 : decode cX11_begins 4 = .ok (.getfield 204, 3) := by decide +kernel
theorem dX11_begins_7 : decode cX11_begins 7 = .ok (.imul, 1) := by decide +kernel
theorem dX11_begins_8 : decode cX11_begins 8 = .ok (.iload_n 1, 1) := by decide +kernel
theorem dX11_begins_9 : decode cX11_begins 9 = .ok (.iadd, 1) := by decide +kernel
theorem dX11_begins_10 : decode cX11_begins 10 = .ok (.putfield 204, 3) := by decide +kernel
theorem dX11_begins_13 : decode cX11_begins 13 = .ok (.return_, 1) := by decide +kernel
theorem dX11_tell_0 : decode cX11_tell 0 = .ok (.aload_n 0, 1) := by decide +kernel
theorem dX11_tell_1 : decode cX11_tell 1 = .ok (.iload_n 1, 1) := by decide +kernel
theorem dX11_tell_2 : decode cX11_tell 2 = .ok (.invokevirtual 148, 3) := by decide +kernel
theorem dX11_tell_5 : decode cX11_tell 5 = .ok (.ifCond .ne 5, 3) := by decide +kernel
theorem dX11_tell_8 : decode cX11_tell 8 = .ok (.iconst (-1), 1) := by decide +kernel
theorem dX11_tell_9 : decode cX11_tell 9 = .ok (.ireturn, 1) := by decide +kernel
theorem dX11_tell_10 : decode cX11_tell 10 = .ok (.aload_n 0, 1) := by decide +kernel
theorem dX11_tell_11 : decode cX11_tell 11 = .ok (.getfield 25, 3) := by decide +kernel
theorem dX11_tell_14 : decode cX11_tell 14 = .ok (.iload_n 1, 1) := by decide +kernel
theorem dX11_tell_15 : decode cX11_tell 15 = .ok (.iaload, 1) := by decide +kernel
theorem dX11_tell_16 : decode cX11_tell 16 = .ok (.istore_n 2, 1) := by decide +kernel
theorem dX11_tell_17 : decode cX11_tell 17 = .ok (.aload_n 0, 1) := by decide +kernel
theorem dX11_tell_18 : decode cX11_tell 18 = .ok (.getfield 22, 3) := by decide +kernel
theorem dX11_tell_21 : decode cX11_tell 21 = .ok (.iload_n 1, 1) := by decide +kernel
theorem dX11_tell_22 : decode cX11_tell 22 = .ok (.iaload, 1) := by decide +kernel
theorem dX11_tell_23 : decode cX11_tell 23 = .ok (.lookupswitch 67 #[(1, 25), (2, 40)], 25) := by decide +kernel
theorem dX11_tell_48 : decode cX11_tell 48 = .ok (.aload_n 0, 1) := by decide +kernel
theorem dX11_tell_49 : decode cX11_tell 49 = .ok (.iconst 2, 1) := by decide +kernel
theorem dX11_tell_50 : decode cX11_tell 50 = .ok (.invokevirtual 207, 3) := by decide +kernel
theorem dX11_tell_53 : decode cX11_tell 53 = .ok (.aload_n 0, 1) := by decide +kernel
theorem dX11_tell_54 : decode cX11_tell 54 = .ok (.iconst 1, 1) := by decide +kernel
theorem dX11_tell_55 : decode cX11_tell 55 = .ok (.invokevirtual 207, 3) := by decide +kernel
theorem dX11_tell_58 : decode cX11_tell 58 = .ok (.iload_n 2, 1) := by decide +kernel
theorem dX11_tell_59 : decode cX11_tell 59 = .ok (.bipush 100, 2) := by decide +kernel
theorem dX11_tell_61 : decode cX11_tell 61 = .ok (.iadd, 1) := by decide +kernel
theorem dX11_tell_62 : decode cX11_tell 62 = .ok (.ireturn, 1) := by decide +kernel
theorem dX11_tell_63 : decode cX11_tell 63 = .ok (.aload_n 0, 1) := by decide +kernel
theorem dX11_tell_64 : decode cX11_tell 64 = .ok (.iconst 3, 1) := by decide +kernel
theorem dX11_tell_65 : decode cX11_tell 65 = .ok (.invokevirtual 207, 3) := by decide +kernel
theorem dX11_tell_68 : decode cX11_tell 68 = .ok (.aload_n 0, 1) := by decide +kernel
theorem dX11_tell_69 : decode cX11_tell 69 = .ok (.iconst 2, 1) := by decide +kernel
theorem dX11_tell_70 : decode cX11_tell 70 = .ok (.invokevirtual 207, 3) := by decide +kernel
theorem dX11_tell_73 : decode cX11_tell 73 = .ok (.aload_n 0, 1) := by decide +kernel
theorem dX11_tell_74 : decode cX11_tell 74 = .ok (.iconst 1, 1) := by decide +kernel
theorem dX11_tell_75 : decode cX11_tell 75 = .ok (.invokevirtual 207, 3) := by decide +kernel
theorem dX11_tell_78 : decode cX11_tell 78 = .ok (.aload_n 0, 1) := by decide +kernel
theorem dX11_tell_79 : decode cX11_tell 79 = .ok (.iconst 1, 1) := by decide +kernel
theorem dX11_tell_80 : decode cX11_tell 80 = .ok (.invokevirtual 207, 3) := by decide +kernel
theorem dX11_tell_83 : decode cX11_tell 83 = .ok (.iconst 2, 1) := by decide +kernel
theorem dX11_tell_84 : decode cX11_tell 84 = .ok (.iload_n 2, 1) := by decide +kernel
theorem dX11_tell_85 : decode cX11_tell 85 = .ok (.imul, 1) := by decide +kernel
theorem dX11_tell_86 : decode cX11_tell 86 = .ok (.bipush 100, 2) := by decide +kernel
theorem dX11_tell_88 : decode cX11_tell 88 = .ok (.iadd, 1) := by decide +kernel
theorem dX11_tell_89 : decode cX11_tell 89 = .ok (.ireturn, 1) := by decide +kernel
theorem dX11_tell_90 : decode cX11_tell 90 = .ok (.aload_n 0, 1) := by decide +kernel
theorem dX11_tell_91 : decode cX11_tell 91 = .ok (.iconst 1, 1) := by decide +kernel
theorem dX11_tell_92 : decode cX11_tell 92 = .ok (.invokevirtual 207, 3) := by decide +kernel
theorem dX11_tell_95 : decode cX11_tell 95 = .ok (.iload_n 2, 1) := by decide +kernel
theorem dX11_tell_96 : decode cX11_tell 96 = .ok (.ireturn, 1) := by decide +kernel
theorem dX11_ring_0 : decode cX11_ring 0 = .ok (.aload_n 0, 1) := by decide +kernel
theorem dX11_ring_1 : decode cX11_ring 1 = .ok (.iload_n 1, 1) := by decide +kernel
theorem dX11_ring_2 : decode cX11_ring 2 = .ok (.invokevirtual 148, 3) := by decide +kernel
theorem dX11_ring_5 : decode cX11_ring 5 = .ok (.ifCond .ne 5, 3) := by decide +kernel
theorem dX11_ring_8 : decode cX11_ring 8 = .ok (.iconst (-1), 1) := by decide +kernel
theorem dX11_ring_9 : decode cX11_ring 9 = .ok (.ireturn, 1) := by decide +kernel
theorem dX11_ring_10 : decode cX11_ring 10 = .ok (.aload_n 0, 1) := by decide +kernel
theorem dX11_ring_11 : decode cX11_ring 11 = .ok (.aload_n 0, 1) := by decide +kernel
theorem dX11_ring_12 : decode cX11_ring 12 = .ok (.getfield 22, 3) := by decide +kernel
theorem dX11_ring_15 : decode cX11_ring 15 = .ok (.iload_n 1, 1) := by decide +kernel
theorem dX11_ring_16 : decode cX11_ring 16 = .ok (.iaload, 1) := by decide +kernel
theorem dX11_ring_17 : decode cX11_ring 17 = .ok (.iconst 2, 1) := by decide +kernel
theorem dX11_ring_18 : decode cX11_ring 18 = .ok (.if_icmp .ne 7, 3) := by decide +kernel
theorem dX11_ring_21 : decode cX11_ring 21 = .ok (.iconst 5, 1) := by decide +kernel
theorem dX11_ring_22 : decode cX11_ring 22 = .ok (.goto 4, 3) := by decide +kernel
theorem dX11_ring_25 : decode cX11_ring 25 = .ok (.iconst 4, 1) := by decide +kernel
theorem dX11_ring_26 : decode cX11_ring 26 = .ok (.invokevirtual 207, 3) := by decide +kernel
theorem dX11_ring_29 : decode cX11_ring 29 = .ok (.aload_n 0, 1) := by decide +kernel
theorem dX11_ring_30 : decode cX11_ring 30 = .ok (.getfield 22, 3) := by decide +kernel
theorem dX11_ring_33 : decode cX11_ring 33 = .ok (.iload_n 1, 1) := by decide +kernel
theorem dX11_ring_34 : decode cX11_ring 34 = .ok (.iaload, 1) := by decide +kernel
theorem dX11_ring_35 : decode cX11_ring 35 = .ok (.iconst 2, 1) := by decide +kernel
theorem dX11_ring_36 : decode cX11_ring 36 = .ok (.if_icmp .ne 8, 3) := by decide +kernel
theorem dX11_ring_39 : decode cX11_ring 39 = .ok (.bipush 40, 2) := by decide +kernel
theorem dX11_ring_41 : decode cX11_ring 41 = .ok (.goto 4, 3) := by decide +kernel
theorem dX11_ring_44 : decode cX11_ring 44 = .ok (.iload_n 1, 1) := by decide +kernel
theorem dX11_ring_45 : decode cX11_ring 45 = .ok (.ireturn, 1) := by decide +kernel
theorem dX11_as_0 : decode cX11_as 0 = .ok (.aload_n 0, 1) := by decide +kernel
theorem dX11_as_1 : decode cX11_as 1 = .ok (.iconst 0, 1) := by decide +kernel
theorem dX11_as_2 : decode cX11_as 2 = .ok (.putfield 76, 3) := by decide +kernel
theorem dX11_as_5 : decode cX11_as 5 = .ok (.aload_n 0, 1) := by decide +kernel
theorem dX11_as_6 : decode cX11_as 6 = .ok (.iload_n 1, 1) := by decide +kernel
theorem dX11_as_7 : decode cX11_as 7 = .ok (.invokevirtual 148, 3) := by decide +kernel
theorem dX11_as_10 : decode cX11_as 10 = .ok (.ifCond .ne 5, 3) := by decide +kernel
theorem dX11_as_13 : decode cX11_as 13 = .ok (.iconst (-1), 1) := by decide +kernel
theorem dX11_as_14 : decode cX11_as 14 = .ok (.ireturn, 1) := by decide +kernel
theorem dX11_as_15 : decode cX11_as 15 = .ok (.iload_n 2, 1) := by decide +kernel
theorem dX11_as_16 : decode cX11_as 16 = .ok (.iconst 0, 1) := by decide +kernel
theorem dX11_as_17 : decode cX11_as 17 = .ok (.iconst 2, 1) := by decide +kernel
theorem dX11_as_18 : decode cX11_as 18 = .ok (.invokestatic 82, 3) := by decide +kernel
theorem dX11_as_21 : decode cX11_as 21 = .ok (.ifCond .ne 6, 3) := by decide +kernel
theorem dX11_as_24 : decode cX11_as 24 = .ok (.bipush (-2), 2) := by decide +kernel
theorem dX11_as_26 : decode cX11_as 26 = .ok (.ireturn, 1) := by decide +kernel
theorem dX11_as_27 : decode cX11_as 27 = .ok (.aload_n 0, 1) := by decide +kernel
theorem dX11_as_28 : decode cX11_as 28 = .ok (.getfield 22, 3) := by decide +kernel
theorem dX11_as_31 : decode cX11_as 31 = .ok (.iload_n 1, 1) := by decide +kernel
theorem dX11_as_32 : decode cX11_as 32 = .ok (.iaload, 1) := by decide +kernel
theorem dX11_as_33 : decode cX11_as 33 = .ok (.iload_n 2, 1) := by decide +kernel
theorem dX11_as_34 : decode cX11_as 34 = .ok (.if_icmp .lt 7, 3) := by decide +kernel
theorem dX11_as_37 : decode cX11_as 37 = .ok (.iconst 1, 1) := by decide +kernel
theorem dX11_as_38 : decode cX11_as 38 = .ok (.goto 8, 3) := by decide +kernel
theorem dX11_as_41 : decode cX11_as 41 = .ok (.aload_n 0, 1) := by decide +kernel
theorem dX11_as_42 : decode cX11_as 42 = .ok (.iconst 2, 1) := by decide +kernel
theorem dX11_as_43 : decode cX11_as 43 = .ok (.invokevirtual 106, 3) := by decide +kernel
theorem dX11_as_46 : decode cX11_as 46 = .ok (.ireturn, 1) := by decide +kernel
theorem dX11_trace_0 : decode cX11_trace 0 = .ok (.aload_n 0, 1) := by decide +kernel
theorem dX11_trace_1 : decode cX11_trace 1 = .ok (.getfield 204, 3) := by decide +kernel
theorem dX11_trace_4 : decode cX11_trace 4 = .ok (.ireturn, 1) := by decide +kernel
theorem dX11_fault_0 : decode cX11_fault 0 = .ok (.aload_n 0, 1) := by decide +kernel
theorem dX11_fault_1 : decode cX11_fault 1 = .ok (.getfield 76, 3) := by decide +kernel
theorem dX11_fault_4 : decode cX11_fault 4 = .ok (.ireturn, 1) := by decide +kernel
theorem dX11_many_0 : decode cX11_many 0 = .ok (.iload_n 1, 1) := by decide +kernel
theorem dX11_many_1 : decode cX11_many 1 = .ok (.ifCond .ne 10, 3) := by decide +kernel
theorem dX11_many_4 : decode cX11_many 4 = .ok (.aload_n 0, 1) := by decide +kernel
theorem dX11_many_5 : decode cX11_many 5 = .ok (.getfield 86, 3) := by decide +kernel
theorem dX11_many_8 : decode cX11_many 8 = .ok (.goto 41, 3) := by decide +kernel
theorem dX11_many_11 : decode cX11_many 11 = .ok (.iload_n 1, 1) := by decide +kernel
theorem dX11_many_12 : decode cX11_many 12 = .ok (.iconst 1, 1) := by decide +kernel
theorem dX11_many_13 : decode cX11_many 13 = .ok (.if_icmp .ne 10, 3) := by decide +kernel
theorem dX11_many_16 : decode cX11_many 16 = .ok (.aload_n 0, 1) := by decide +kernel
theorem dX11_many_17 : decode cX11_many 17 = .ok (.getfield 125, 3) := by decide +kernel
theorem dX11_many_20 : decode cX11_many 20 = .ok (.goto 29, 3) := by decide +kernel
theorem dX11_many_23 : decode cX11_many 23 = .ok (.iload_n 1, 1) := by decide +kernel
theorem dX11_many_24 : decode cX11_many 24 = .ok (.iconst 2, 1) := by decide +kernel
theorem dX11_many_25 : decode cX11_many 25 = .ok (.if_icmp .ne 10, 3) := by decide +kernel
theorem dX11_many_28 : decode cX11_many 28 = .ok (.aload_n 0, 1) := by decide +kernel
theorem dX11_many_29 : decode cX11_many 29 = .ok (.getfield 89, 3) := by decide +kernel
theorem dX11_many_32 : decode cX11_many 32 = .ok (.goto 17, 3) := by decide +kernel
theorem dX11_many_35 : decode cX11_many 35 = .ok (.iload_n 1, 1) := by decide +kernel
theorem dX11_many_36 : decode cX11_many 36 = .ok (.iconst 3, 1) := by decide +kernel
theorem dX11_many_37 : decode cX11_many 37 = .ok (.if_icmp .ne 10, 3) := by decide +kernel
theorem dX11_many_40 : decode cX11_many 40 = .ok (.aload_n 0, 1) := by decide +kernel
theorem dX11_many_41 : decode cX11_many 41 = .ok (.getfield 128, 3) := by decide +kernel
theorem dX11_many_44 : decode cX11_many 44 = .ok (.goto 5, 3) := by decide +kernel
theorem dX11_many_47 : decode cX11_many 47 = .ok (.bipush (-2), 2) := by decide +kernel
theorem dX11_many_49 : decode cX11_many 49 = .ok (.ireturn, 1) := by decide +kernel
