theorem dX5_init_0 : decode cX5_init 0 = .ok (.aload_n 0, 1) := by decide +kernel
theorem dX5_init_1 : decode cX5_init 1 = .ok (.invokespecial 3, 3) := by decide +kernel
theorem dX5_init_4 : decode cX5_init 4 = .ok (.aload_n 0, 1) := by decide +kernel
theorem dX5_init_5 : decode cX5_init 5 = .ok (.bipush 40, 2) := by decide +kernel
theorem dX5_init_7 : decode cX5_init 7 = .ok (.newarray .int, 2) := by decide +kernel
theorem dX5_init_9 : decode cX5_init 9 = .ok (.putfield 9, 3) := by decide +kernel
theorem dX5_init_12 : decode cX5_init 12 = .ok (.aload_n 0, 1) := by decide +kernel
theorem dX5_init_13 : decode cX5_init 13 = .ok (.iconst 0, 1) := by decide +kernel
theorem dX5_init_14 : decode cX5_init 14 = .ok (.putfield 15, 3) := by decide +kernel
theorem dX5_init_17 : decode cX5_init 17 = .ok (.return_, 1) := by decide +kernel
theorem dX5_faultPlace_0 : decode cX5_faultPlace 0 = .ok (.iconst 0, 1) := by decide +kernel
theorem dX5_faultPlace_1 : decode cX5_faultPlace 1 = .ok (.istore_n 1, 1) := by decide +kernel
theorem dX5_faultPlace_2 : decode cX5_faultPlace 2 = .ok (.iconst 0, 1) := by decide +kernel
theorem dX5_faultPlace_3 : decode cX5_faultPlace 3 = .ok (.istore_n 2, 1) := by decide +kernel
theorem dX5_faultPlace_4 : decode cX5_faultPlace 4 = .ok (.iload_n 2, 1) := by decide +kernel
theorem dX5_faultPlace_5 : decode cX5_faultPlace 5 = .ok (.aload_n 0, 1) := by decide +kernel
theorem dX5_faultPlace_6 : decode cX5_faultPlace 6 = .ok (.getfield 15, 3) := by decide +kernel
theorem dX5_faultPlace_9 : decode cX5_faultPlace 9 = .ok (.if_icmp .ge 28, 3) := by decide +kernel
theorem dX5_faultPlace_12 : decode cX5_faultPlace 12 = .ok (.iload_n 1, 1) := by decide +kernel
theorem dX5_faultPlace_13 : decode cX5_faultPlace 13 = .ok (.aload_n 0, 1) := by decide +kernel
theorem dX5_faultPlace_14 : decode cX5_faultPlace 14 = .ok (.getfield 9, 3) := by decide +kernel
theorem dX5_faultPlace_17 : decode cX5_faultPlace 17 = .ok (.iload_n 2, 1) := by decide +kernel
theorem dX5_faultPlace_18 : decode cX5_faultPlace 18 = .ok (.iaload, 1) := by decide +kernel
theorem dX5_faultPlace_19 : decode cX5_faultPlace 19 = .ok (.invokestatic 19, 3) := by decide +kernel
theorem dX5_faultPlace_22 : decode cX5_faultPlace 22 = .ok (.istore_n 1, 1) := by decide +kernel
theorem dX5_faultPlace_23 : decode cX5_faultPlace 23 = .ok (.iload_n 1, 1) := by decide +kernel
theorem dX5_faultPlace_24 : decode cX5_faultPlace 24 = .ok (.bipush 8, 2) := by decide +kernel
theorem dX5_faultPlace_26 : decode cX5_faultPlace 26 = .ok (.if_icmp .ne 5, 3) := by decide +kernel
theorem dX5_faultPlace_29 : decode cX5_faultPlace 29 = .ok (.iload_n 2, 1) := by decide +kernel
theorem dX5_faultPlace_30 : decode cX5_faultPlace 30 = .ok (.ireturn, 1) := by decide +kernel
theorem dX5_faultPlace_31 : decode cX5_faultPlace 31 = .ok (.iinc 2 1, 3) := by decide +kernel
theorem dX5_faultPlace_34 : decode cX5_faultPlace 34 = .ok (.goto (-30), 3) := by decide +kernel
theorem dX5_faultPlace_37 : decode cX5_faultPlace 37 = .ok (.iload_n 1, 1) := by decide +kernel
theorem dX5_faultPlace_38 : decode cX5_faultPlace 38 = .ok (.bipush 7, 2) := by decide +kernel
theorem dX5_faultPlace_40 : decode cX5_faultPlace 40 = .ok (.if_icmp .ne 8, 3) := by decide +kernel
theorem dX5_faultPlace_43 : decode cX5_faultPlace 43 = .ok (.bipush (-6), 2) := by decide +kernel
theorem dX5_faultPlace_45 : decode cX5_faultPlace 45 = .ok (.goto 7, 3) := by decide +kernel
theorem dX5_faultPlace_48 : decode cX5_faultPlace 48 = .ok (.aload_n 0, 1) := by decide +kernel
theorem dX5_faultPlace_49 : decode cX5_faultPlace 49 = .ok (.getfield 15, 3) := by decide +kernel
theorem dX5_faultPlace_52 : decode cX5_faultPlace 52 = .ok (.ireturn, 1) := by decide +kernel
theorem dX5_isDigit_0 : decode cX5_isDigit 0 = .ok (.iload_n 0, 1) := by decide +kernel
theorem dX5_isDigit_1 : decode cX5_isDigit 1 = .ok (.bipush 48, 2) := by decide +kernel
theorem dX5_isDigit_3 : decode cX5_isDigit 3 = .ok (.if_icmp .lt 13, 3) := by decide +kernel
theorem dX5_isDigit_6 : decode cX5_isDigit 6 = .ok (.iload_n 0, 1) := by decide +kernel
theorem dX5_isDigit_7 : decode cX5_isDigit 7 = .ok (.bipush 57, 2) := by decide +kernel
theorem dX5_isDigit_9 : decode cX5_isDigit 9 = .ok (.if_icmp .gt 7, 3) := by decide +kernel
theorem dX5_isDigit_12 : decode cX5_isDigit 12 = .ok (.iconst 1, 1) := by decide +kernel
theorem dX5_isDigit_13 : decode cX5_isDigit 13 = .ok (.goto 4, 3) := by decide +kernel
theorem dX5_isDigit_16 : decode cX5_isDigit 16 = .ok (.iconst 0, 1) := by decide +kernel
theorem dX5_isDigit_17 : decode cX5_isDigit 17 = .ok (.ireturn, 1) := by decide +kernel
theorem dX5_isPriceDigit_0 : decode cX5_isPriceDigit 0 = .ok (.iload_n 0, 1) := by decide +kernel
theorem dX5_isPriceDigit_1 : decode cX5_isPriceDigit 1 = .ok (.bipush 48, 2) := by decide +kernel
theorem dX5_isPriceDigit_3 : decode cX5_isPriceDigit 3 = .ok (.if_icmp .lt 13, 3) := by decide +kernel
theorem dX5_isPriceDigit_6 : decode cX5_isPriceDigit 6 = .ok (.iload_n 0, 1) := by decide +kernel
theorem dX5_isPriceDigit_7 : decode cX5_isPriceDigit 7 = .ok (.bipush 53, 2) := by decide +kernel
theorem dX5_isPriceDigit_9 : decode cX5_isPriceDigit 9 = .ok (.if_icmp .ge 7, 3) := by decide +kernel
theorem dX5_isPriceDigit_12 : decode cX5_isPriceDigit 12 = .ok (.iconst 1, 1) := by decide +kernel
theorem dX5_isPriceDigit_13 : decode cX5_isPriceDigit 13 = .ok (.goto 4, 3) := by decide +kernel
theorem dX5_isPriceDigit_16 : decode cX5_isPriceDigit 16 = .ok (.iconst 0, 1) := by decide +kernel
theorem dX5_isPriceDigit_17 : decode cX5_isPriceDigit 17 = .ok (.ireturn, 1) := by decide +kernel
theorem dX5_isFact_0 : decode cX5_isFact 0 = .ok (.iload_n 0, 1) := by decide +kernel
theorem dX5_isFact_1 : decode cX5_isFact 1 = .ok (.bipush 108, 2) := by decide +kernel
theorem dX5_isFact_3 : decode cX5_isFact 3 = .ok (.if_icmp .eq 9, 3) := by decide +kernel
theorem dX5_isFact_6 : decode cX5_isFact 6 = .ok (.iload_n 0, 1) := by decide +kernel
theorem dX5_isFact_7 : decode cX5_isFact 7 = .ok (.bipush 100, 2) := by decide +kernel
theorem dX5_isFact_9 : decode cX5_isFact 9 = .ok (.if_icmp .ne 7, 3) := by decide +kernel
theorem dX5_isFact_12 : decode cX5_isFact 12 = .ok (.iconst 1, 1) := by decide +kernel
theorem dX5_isFact_13 : decode cX5_isFact 13 = .ok (.goto 4, 3) := by decide +kernel
theorem dX5_isFact_16 : decode cX5_isFact 16 = .ok (.iconst 0, 1) := by decide +kernel
theorem dX5_isFact_17 : decode cX5_isFact 17 = .ok (.ireturn, 1) := by decide +kernel
theorem dX5_isCompare_0 : decode cX5_isCompare 0 = .ok (.iload_n 0, 1) := by decide +kernel
theorem dX5_isCompare_1 : decode cX5_isCompare 1 = .ok (.bipush 60, 2) := by decide +kernel
theorem dX5_isCompare_3 : decode cX5_isCompare 3 = .ok (.if_icmp .eq 15, 3) := by decide +kernel
theorem dX5_isCompare_6 : decode cX5_isCompare 6 = .ok (.iload_n 0, 1) := by decide +kernel
theorem dX5_isCompare_7 : decode cX5_isCompare 7 = .ok (.bipush 62, 2) := by decide +kernel
theorem dX5_isCompare_9 : decode cX5_isCompare 9 = .ok (.if_icmp .eq 9, 3) := by decide +kernel
theorem dX5_isCompare_12 : decode cX5_isCompare 12 = .ok (.iload_n 0, 1) := by decide +kernel
theorem dX5_isCompare_13 : decode cX5_isCompare 13 = .ok (.bipush 61, 2) := by decide +kernel
theorem dX5_isCompare_15 : decode cX5_isCompare 15 = .ok (.if_icmp .ne 7, 3) := by decide +kernel
theorem dX5_isCompare_18 : decode cX5_isCompare 18 = .ok (.iconst 1, 1) := by decide +kernel
theorem dX5_isCompare_19 : decode cX5_isCompare 19 = .ok (.goto 4, 3) := by decide +kernel
theorem dX5_isCompare_22 : decode cX5_isCompare 22 = .ok (.iconst 0, 1) := by decide +kernel
theorem dX5_isCompare_23 : decode cX5_isCompare 23 = .ok (.ireturn, 1) := by decide +kernel
theorem dX5_follow_0 : decode cX5_follow 0 = .ok (.iload_n 0, 1) := by decide +kernel
theorem dX5_follow_1 : decode cX5_follow 1 = .ok (.tableswitch 162 0 6 #[43, 69, 83, 97, 121, 134, 149], 43) := by decide +kernel
theorem dX5_follow_44 : decode cX5_follow 44 = .ok (.iload_n 1, 1) := by decide +kernel
theorem dX5_follow_45 : decode cX5_follow 45 = .ok (.invokestatic 23, 3) := by decide +kernel
theorem dX5_follow_48 : decode cX5_follow 48 = .ok (.ifCond .eq 7, 3) := by decide +kernel
theorem dX5_follow_51 : decode cX5_follow 51 = .ok (.iconst 1, 1) := by decide +kernel
theorem dX5_follow_52 : decode cX5_follow 52 = .ok (.goto 17, 3) := by decide +kernel
theorem dX5_follow_55 : decode cX5_follow 55 = .ok (.iload_n 1, 1) := by decide +kernel
theorem dX5_follow_56 : decode cX5_follow 56 = .ok (.invokestatic 27, 3) := by decide +kernel
theorem dX5_follow_59 : decode cX5_follow 59 = .ok (.ifCond .eq 8, 3) := by decide +kernel
theorem dX5_follow_62 : decode cX5_follow 62 = .ok (.bipush 7, 2) := by decide +kernel
theorem dX5_follow_64 : decode cX5_follow 64 = .ok (.goto 5, 3) := by decide +kernel
theorem dX5_follow_67 : decode cX5_follow 67 = .ok (.bipush 8, 2) := by decide +kernel
theorem dX5_follow_69 : decode cX5_follow 69 = .ok (.ireturn, 1) := by decide +kernel
theorem dX5_follow_70 : decode cX5_follow 70 = .ok (.iload_n 1, 1) := by decide +kernel
theorem dX5_follow_71 : decode cX5_follow 71 = .ok (.invokestatic 30, 3) := by decide +kernel
theorem dX5_follow_74 : decode cX5_follow 74 = .ok (.ifCond .eq 7, 3) := by decide +kernel
theorem dX5_follow_77 : decode cX5_follow 77 = .ok (.iconst 2, 1) := by decide +kernel
theorem dX5_follow_78 : decode cX5_follow 78 = .ok (.goto 5, 3) := by decide +kernel
theorem dX5_follow_81 : decode cX5_follow 81 = .ok (.bipush 8, 2) := by decide +kernel
theorem dX5_follow_83 : decode cX5_follow 83 = .ok (.ireturn, 1) := by decide +kernel
theorem dX5_follow_84 : decode cX5_follow 84 = .ok (.iload_n 1, 1) := by decide +kernel
theorem dX5_follow_85 : decode cX5_follow 85 = .ok (.invokestatic 33, 3) := by decide +kernel
theorem dX5_follow_88 : decode cX5_follow 88 = .ok (.ifCond .eq 7, 3) := by decide +kernel
theorem dX5_follow_91 : decode cX5_follow 91 = .ok (.iconst 3, 1) := by decide +kernel
theorem dX5_follow_92 : decode cX5_follow 92 = .ok (.goto 5, 3) := by decide +kernel
theorem dX5_follow_95 : decode cX5_follow 95 = .ok (.bipush 8, 2) := by decide +kernel
theorem dX5_follow_97 : decode cX5_follow 97 = .ok (.ireturn, 1) := by decide +kernel
theorem dX5_follow_98 : decode cX5_follow 98 = .ok (.iload_n 1, 1) := by decide +kernel
theorem dX5_follow_99 : decode cX5_follow 99 = .ok (.invokestatic 33, 3) := by decide +kernel
theorem dX5_follow_102 : decode cX5_follow 102 = .ok (.ifCond .eq 7, 3) := by decide +kernel
theorem dX5_follow_105 : decode cX5_follow 105 = .ok (.iconst 4, 1) := by decide +kernel
theorem dX5_follow_106 : decode cX5_follow 106 = .ok (.goto 15, 3) := by decide +kernel
theorem dX5_follow_109 : decode cX5_follow 109 = .ok (.iload_n 1, 1) := by decide +kernel
theorem dX5_follow_110 : decode cX5_follow 110 = .ok (.bipush 58, 2) := by decide +kernel
theorem dX5_follow_112 : decode cX5_follow 112 = .ok (.if_icmp .ne 7, 3) := by decide +kernel
theorem dX5_follow_115 : decode cX5_follow 115 = .ok (.iconst 5, 1) := by decide +kernel
theorem dX5_follow_116 : decode cX5_follow 116 = .ok (.goto 5, 3) := by decide +kernel
theorem dX5_follow_119 : decode cX5_follow 119 = .ok (.bipush 8, 2) := by decide +kernel
theorem dX5_follow_121 : decode cX5_follow 121 = .ok (.ireturn, 1) := by decide +kernel
theorem dX5_follow_122 : decode cX5_follow 122 = .ok (.iload_n 1, 1) := by decide +kernel
theorem dX5_follow_123 : decode cX5_follow 123 = .ok (.bipush 58, 2) := by decide +kernel
theorem dX5_follow_125 : decode cX5_follow 125 = .ok (.if_icmp .ne 7, 3) := by decide +kernel
theorem dX5_follow_128 : decode cX5_follow 128 = .ok (.iconst 5, 1) := by decide +kernel
theorem dX5_follow_129 : decode cX5_follow 129 = .ok (.goto 5, 3) := by decide +kernel
theorem dX5_follow_132 : decode cX5_follow 132 = .ok (.bipush 8, 2) := by decide +kernel
theorem dX5_follow_134 : decode cX5_follow 134 = .ok (.ireturn, 1) := by decide +kernel
theorem dX5_follow_135 : decode cX5_follow 135 = .ok (.iload_n 1, 1) := by decide +kernel
theorem dX5_follow_136 : decode cX5_follow 136 = .ok (.invokestatic 27, 3) := by decide +kernel
theorem dX5_follow_139 : decode cX5_follow 139 = .ok (.ifCond .eq 8, 3) := by decide +kernel
theorem dX5_follow_142 : decode cX5_follow 142 = .ok (.bipush 6, 2) := by decide +kernel
theorem dX5_follow_144 : decode cX5_follow 144 = .ok (.goto 5, 3) := by decide +kernel
theorem dX5_follow_147 : decode cX5_follow 147 = .ok (.bipush 8, 2) := by decide +kernel
theorem dX5_follow_149 : decode cX5_follow 149 = .ok (.ireturn, 1) := by decide +kernel
theorem dX5_follow_150 : decode cX5_follow 150 = .ok (.iload_n 1, 1) := by decide +kernel
theorem dX5_follow_151 : decode cX5_follow 151 = .ok (.bipush 59, 2) := by decide +kernel
theorem dX5_follow_153 : decode cX5_follow 153 = .ok (.if_icmp .ne 7, 3) := by decide +kernel
theorem dX5_follow_156 : decode cX5_follow 156 = .ok (.iconst 0, 1) := by decide +kernel
theorem dX5_follow_157 : decode cX5_follow 157 = .ok (.goto 5, 3) := by decide +kernel
theorem dX5_follow_160 : decode cX5_follow 160 = .ok (.bipush 8, 2) := by decide +kernel
theorem dX5_follow_162 : decode cX5_follow 162 = .ok (.ireturn, 1) := by decide +kernel
theorem dX5_follow_163 : decode cX5_follow 163 = .ok (.bipush 8, 2) := by decide +kernel
theorem dX5_follow_165 : decode cX5_follow 165 = .ok (.ireturn, 1) := by decide +kernel
