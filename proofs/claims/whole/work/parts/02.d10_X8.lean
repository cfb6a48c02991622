theorem dX8_init_0 : decode cX8_init 0 = .ok (.aload_n 0, 1) := by decide +kernel
theorem dX8_init_1 : decode cX8_init 1 = .ok (.invokespecial 1, 3) := by decide +kernel
theorem dX8_init_4 : decode cX8_init 4 = .ok (.aload_n 0, 1) := by decide +kernel
theorem dX8_init_5 : decode cX8_init 5 = .ok (.iconst 5, 1) := by decide +kernel
theorem dX8_init_6 : decode cX8_init 6 = .ok (.newarray .int, 2) := by decide +kernel
theorem dX8_init_8 : decode cX8_init 8 = .ok (.putfield 7, 3) := by decide +kernel
theorem dX8_init_11 : decode cX8_init 11 = .ok (.aload_n 0, 1) := by decide +kernel
theorem dX8_init_12 : decode cX8_init 12 = .ok (.iconst 3, 1) := by decide +kernel
theorem dX8_init_13 : decode cX8_init 13 = .ok (.newarray .int, 2) := by decide +kernel
theorem dX8_init_15 : decode cX8_init 15 = .ok (.putfield 13, 3) := by decide +kernel
theorem dX8_init_18 : decode cX8_init 18 = .ok (.aload_n 0, 1) := by decide +kernel
theorem dX8_init_19 : decode cX8_init 19 = .ok (.iconst 3, 1) := by decide +kernel
theorem dX8_init_20 : decode cX8_init 20 = .ok (.newarray .int, 2) := by decide +kernel
theorem dX8_init_22 : decode cX8_init 22 = .ok (.putfield 16, 3) := by decide +kernel
theorem dX8_init_25 : decode cX8_init 25 = .ok (.aload_n 0, 1) := by decide +kernel
theorem dX8_init_26 : decode cX8_init 26 = .ok (.iconst 3, 1) := by decide +kernel
theorem dX8_init_27 : decode cX8_init 27 = .ok (.newarray .int, 2) := by decide +kernel
theorem dX8_init_29 : decode cX8_init 29 = .ok (.putfield 19, 3) := by decide +kernel
theorem dX8_init_32 : decode cX8_init 32 = .ok (.aload_n 0, 1) := by decide +kernel
theorem dX8_init_33 : decode cX8_init 33 = .ok (.iconst 3, 1) := by decide +kernel
theorem dX8_init_34 : decode cX8_init 34 = .ok (.newarray .int, 2) := by decide +kernel
theorem dX8_init_36 : decode cX8_init 36 = .ok (.putfield 22, 3) := by decide +kernel
theorem dX8_init_39 : decode cX8_init 39 = .ok (.aload_n 0, 1) := by decide +kernel
theorem dX8_init_40 : decode cX8_init 40 = .ok (.bipush 6, 2) := by decide +kernel
theorem dX8_init_42 : decode cX8_init 42 = .ok (.newarray .int, 2) := by decide +kernel
theorem dX8_init_44 : decode cX8_init 44 = .ok (.putfield 25, 3) := by decide +kernel
theorem dX8_init_47 : decode cX8_init 47 = .ok (.aload_n 0, 1) := by decide +kernel
theorem dX8_init_48 : decode cX8_init 48 = .ok (.bipush 13, 2) := by decide +kernel
theorem dX8_init_50 : decode cX8_init 50 = .ok (.newarray .long, 2) := by decide +kernel
theorem dX8_init_52 : decode cX8_init 52 = .ok (.putfield 28, 3) := by decide +kernel
theorem dX8_init_55 : decode cX8_init 55 = .ok (.aload_n 0, 1) := by decide +kernel
theorem dX8_init_56 : decode cX8_init 56 = .ok (.bipush 91, 2) := by decide +kernel
theorem dX8_init_58 : decode cX8_init 58 = .ok (.newarray .long, 2) := by decide +kernel
theorem dX8_init_60 : decode cX8_init 60 = .ok (.putfield 32, 3) := by decide +kernel
theorem dX8_init_63 : decode cX8_init 63 = .ok (.aload_n 0, 1) := by decide +kernel
theorem dX8_init_64 : decode cX8_init 64 = .ok (.bipush 78, 2) := by decide +kernel
theorem dX8_init_66 : decode cX8_init 66 = .ok (.newarray .int, 2) := by decide +kernel
theorem dX8_init_68 : decode cX8_init 68 = .ok (.putfield 35, 3) := by decide +kernel
theorem dX8_init_71 : decode cX8_init 71 = .ok (.aload_n 0, 1) := by decide +kernel
theorem dX8_init_72 : decode cX8_init 72 = .ok (.bipush 13, 2) := by decide +kernel
theorem dX8_init_74 : decode cX8_init 74 = .ok (.newarray .long, 2) := by decide +kernel
theorem dX8_init_76 : decode cX8_init 76 = .ok (.putfield 38, 3) := by decide +kernel
theorem dX8_init_79 : decode cX8_init 79 = .ok (.aload_n 0, 1) := by decide +kernel
theorem dX8_init_80 : decode cX8_init 80 = .ok (.bipush 6, 2) := by decide +kernel
theorem dX8_init_82 : decode cX8_init 82 = .ok (.newarray .int, 2) := by decide +kernel
theorem dX8_init_84 : decode cX8_init 84 = .ok (.putfield 41, 3) := by decide +kernel
theorem dX8_init_87 : decode cX8_init 87 = .ok (.aload_n 0, 1) := by decide +kernel
theorem dX8_init_88 : decode cX8_init 88 = .ok (.bipush 13, 2) := by decide +kernel
theorem dX8_init_90 : decode cX8_init 90 = .ok (.newarray .long, 2) := by decide +kernel
theorem dX8_init_92 : decode cX8_init 92 = .ok (.putfield 44, 3) := by decide +kernel
theorem dX8_init_95 : decode cX8_init 95 = .ok (.aload_n 0, 1) := by decide +kernel
theorem dX8_init_96 : decode cX8_init 96 = .ok (.bipush 6, 2) := by decide +kernel
theorem dX8_init_98 : decode cX8_init 98 = .ok (.newarray .int, 2) := by decide +kernel
theorem dX8_init_100 : decode cX8_init 100 = .ok (.putfield 47, 3) := by decide +kernel
theorem dX8_init_103 : decode cX8_init 103 = .ok (.aload_n 0, 1) := by decide +kernel
theorem dX8_init_104 : decode cX8_init 104 = .ok (.bipush 40, 2) := by decide +kernel
theorem dX8_init_106 : decode cX8_init 106 = .ok (.newarray .int, 2) := by decide +kernel
theorem dX8_init_108 : decode cX8_init 108 = .ok (.putfield 50, 3) := by decide +kernel
theorem dX8_init_111 : decode cX8_init 111 = .ok (.aload_n 0, 1) := by decide +kernel
theorem dX8_init_112 : decode cX8_init 112 = .ok (.bipush 8, 2) := by decide +kernel
theorem dX8_init_114 : decode cX8_init 114 = .ok (.newarray .int, 2) := by decide +kernel
theorem dX8_init_116 : decode cX8_init 116 = .ok (.putfield 53, 3) := by decide +kernel
theorem dX8_init_119 : decode cX8_init 119 = .ok (.aload_n 0, 1) := by decide +kernel
theorem dX8_init_120 : decode cX8_init 120 = .ok (.bipush 8, 2) := by decide +kernel
theorem dX8_init_122 : decode cX8_init 122 = .ok (.newarray .int, 2) := by decide +kernel
theorem dX8_init_124 : decode cX8_init 124 = .ok (.putfield 56, 3) := by decide +kernel
theorem dX8_init_127 : decode cX8_init 127 = .ok (.aload_n 0, 1) := by decide +kernel
theorem dX8_init_128 : decode cX8_init 128 = .ok (.bipush 8, 2) := by decide +kernel
theorem dX8_init_130 : decode cX8_init 130 = .ok (.newarray .int, 2) := by decide +kernel
theorem dX8_init_132 : decode cX8_init 132 = .ok (.putfield 59, 3) := by decide +kernel
theorem dX8_init_135 : decode cX8_init 135 = .ok (.aload_n 0, 1) := by decide +kernel
theorem dX8_init_136 : decode cX8_init 136 = .ok (.bipush 8, 2) := by decide +kernel
theorem dX8_init_138 : decode cX8_init 138 = .ok (.newarray .int, 2) := by decide +kernel
theorem dX8_init_140 : decode cX8_init 140 = .ok (.putfield 62, 3) := by decide +kernel
theorem dX8_init_143 : decode cX8_init 143 = .ok (.aload_n 0, 1) := by decide +kernel
theorem dX8_init_144 : decode cX8_init 144 = .ok (.bipush (-6), 2) := by decide +kernel
theorem dX8_init_146 : decode cX8_init 146 = .ok (.putfield 65, 3) := by decide +kernel
theorem dX8_init_149 : decode cX8_init 149 = .ok (.aload_n 0, 1) := by decide +kernel
theorem dX8_init_150 : decode cX8_init 150 = .ok (.bipush 13, 2) := by decide +kernel
theorem dX8_init_152 : decode cX8_init 152 = .ok (.newarray .long, 2) := by decide +kernel
theorem dX8_init_154 : decode cX8_init 154 = .ok (.putfield 69, 3) := by decide +kernel
theorem dX8_init_157 : decode cX8_init 157 = .ok (.aload_n 0, 1) := by decide +kernel
theorem dX8_init_158 : decode cX8_init 158 = .ok (.bipush 13, 2) := by decide +kernel
theorem dX8_init_160 : decode cX8_init 160 = .ok (.newarray .long, 2) := by decide +kernel
theorem dX8_init_162 : decode cX8_init 162 = .ok (.putfield 72, 3) := by decide +kernel
theorem dX8_init_165 : decode cX8_init 165 = .ok (.aload_n 0, 1) := by decide +kernel
theorem dX8_init_166 : decode cX8_init 166 = .ok (.iconst 4, 1) := by decide +kernel
theorem dX8_init_167 : decode cX8_init 167 = .ok (.putfield 75, 3) := by decide +kernel
theorem dX8_init_170 : decode cX8_init 170 = .ok (.aload_n 0, 1) := by decide +kernel
theorem dX8_init_171 : decode cX8_init 171 = .ok (.iconst 3, 1) := by decide +kernel
theorem dX8_init_172 : decode cX8_init 172 = .ok (.putfield 78, 3) := by decide +kernel
theorem dX8_init_175 : decode cX8_init 175 = .ok (.return_, 1) := by decide +kernel
theorem dX8_in_0 : decode cX8_in 0 = .ok (.lload_n 0, 1) := by decide +kernel
theorem dX8_in_1 : decode cX8_in 1 = .ok (.lload_n 2, 1) := by decide +kernel
theorem dX8_in_2 : decode cX8_in 2 = .ok (.lcmp, 1) := by decide +kernel
theorem dX8_in_3 : decode cX8_in 3 = .ok (.ifCond .lt 14, 3) := by decide +kernel
theorem dX8_in_6 : decode cX8_in 6 = .ok (.lload_n 0, 1) := by decide +kernel
theorem dX8_in_7 : decode cX8_in 7 = .ok (.lload 4, 2) := by decide +kernel
theorem dX8_in_9 : decode cX8_in 9 = .ok (.lcmp, 1) := by decide +kernel
theorem dX8_in_10 : decode cX8_in 10 = .ok (.ifCond .gt 7, 3) := by decide +kernel
theorem dX8_in_13 : decode cX8_in 13 = .ok (.iconst 1, 1) := by decide +kernel
theorem dX8_in_14 : decode cX8_in 14 = .ok (.goto 4, 3) := by decide +kernel
theorem dX8_in_17 : decode cX8_in 17 = .ok (.iconst 0, 1) := by decide +kernel
theorem dX8_in_18 : decode cX8_in 18 = .ok (.ireturn, 1) := by decide +kernel
theorem dX8_set_0 : decode cX8_set 0 = .ok (.iload_n 1, 1) := by decide +kernel
theorem dX8_set_1 : decode cX8_set 1 = .ok (.i2l, 1) := by decide +kernel
theorem dX8_set_2 : decode cX8_set 2 = .ok (.lconst 0, 1) := by decide +kernel
theorem dX8_set_3 : decode cX8_set 3 = .ok (.ldc2_w 81, 3) := by decide +kernel
theorem dX8_set_6 : decode cX8_set 6 = .ok (.invokestatic 83, 3) := by decide +kernel
theorem dX8_set_9 : decode cX8_set 9 = .ok (.ifCond .eq 45, 3) := by decide +kernel
theorem dX8_set_12 : decode cX8_set 12 = .ok (.iload_n 2, 1) := by decide +kernel
theorem dX8_set_13 : decode cX8_set 13 = .ok (.i2l, 1) := by decide +kernel
theorem dX8_set_14 : decode cX8_set 14 = .ok (.iload_n 1, 1) := by decide +kernel
theorem dX8_set_15 : decode cX8_set 15 = .ok (.iconst 1, 1) := by decide +kernel
theorem dX8_set_16 : decode cX8_set 16 = .ok (.if_icmp .ne 7, 3) := by decide +kernel
theorem dX8_set_19 : decode cX8_set 19 = .ok (.lconst 1, 1) := by decide +kernel
theorem dX8_set_20 : decode cX8_set 20 = .ok (.goto 4, 3) := by decide +kernel
theorem dX8_set_23 : decode cX8_set 23 = .ok (.lconst 0, 1) := by decide +kernel
theorem dX8_set_24 : decode cX8_set 24 = .ok (.iload_n 1, 1) := by decide +kernel
theorem dX8_set_25 : decode cX8_set 25 = .ok (.ifCond .ne 9, 3) := by decide +kernel
theorem dX8_set_28 : decode cX8_set 28 = .ok (.ldc2_w 87, 3) := by decide +kernel
theorem dX8_set_31 : decode cX8_set 31 = .ok (.goto 17, 3) := by decide +kernel
theorem dX8_set_34 : decode cX8_set 34 = .ok (.iload_n 1, 1) := by decide +kernel
theorem dX8_set_35 : decode cX8_set 35 = .ok (.iconst 1, 1) := by decide +kernel
theorem dX8_set_36 : decode cX8_set 36 = .ok (.if_icmp .ne 9, 3) := by decide +kernel
theorem dX8_set_39 : decode cX8_set 39 = .ok (.ldc2_w 89, 3) := by decide +kernel
theorem dX8_set_42 : decode cX8_set 42 = .ok (.goto 6, 3) := by decide +kernel
theorem dX8_set_45 : decode cX8_set 45 = .ok (.ldc2_w 91, 3) := by decide +kernel
theorem dX8_set_48 : decode cX8_set 48 = .ok (.invokestatic 83, 3) := by decide +kernel
theorem dX8_set_51 : decode cX8_set 51 = .ok (.ifCond .ne 6, 3) := by decide +kernel
theorem dX8_set_54 : decode cX8_set 54 = .ok (.bipush (-2), 2) := by decide +kernel
theorem dX8_set_56 : decode cX8_set 56 = .ok (.ireturn, 1) := by decide +kernel
theorem dX8_set_57 : decode cX8_set 57 = .ok (.iload_n 1, 1) := by decide +kernel
theorem dX8_set_58 : decode cX8_set 58 = .ok (.ifCond .ne 10, 3) := by decide +kernel
theorem dX8_set_61 : decode cX8_set 61 = .ok (.aload_n 0, 1) := by decide +kernel
theorem dX8_set_62 : decode cX8_set 62 = .ok (.getfield 75, 3) := by decide +kernel
theorem dX8_set_65 : decode cX8_set 65 = .ok (.goto 19, 3) := by decide +kernel
theorem dX8_set_68 : decode cX8_set 68 = .ok (.iload_n 1, 1) := by decide +kernel
theorem dX8_set_69 : decode cX8_set 69 = .ok (.iconst 1, 1) := by decide +kernel
theorem dX8_set_70 : decode cX8_set 70 = .ok (.if_icmp .ne 10, 3) := by decide +kernel
theorem dX8_set_73 : decode cX8_set 73 = .ok (.aload_n 0, 1) := by decide +kernel
theorem dX8_set_74 : decode cX8_set 74 = .ok (.getfield 78, 3) := by decide +kernel
theorem dX8_set_77 : decode cX8_set 77 = .ok (.goto 7, 3) := by decide +kernel
theorem dX8_set_80 : decode cX8_set 80 = .ok (.aload_n 0, 1) := by decide +kernel
theorem dX8_set_81 : decode cX8_set 81 = .ok (.getfield 93, 3) := by decide +kernel
theorem dX8_set_84 : decode cX8_set 84 = .ok (.istore_n 3, 1) := by decide +kernel
theorem dX8_set_85 : decode cX8_set 85 = .ok (.iload_n 1, 1) := by decide +kernel
theorem dX8_set_86 : decode cX8_set 86 = .ok (.ifCond .ne 11, 3) := by decide +kernel
theorem dX8_set_89 : decode cX8_set 89 = .ok (.aload_n 0, 1) := by decide +kernel
theorem dX8_set_90 : decode cX8_set 90 = .ok (.iload_n 2, 1) := by decide +kernel
theorem dX8_set_91 : decode cX8_set 91 = .ok (.putfield 75, 3) := by decide +kernel
theorem dX8_set_94 : decode cX8_set 94 = .ok (.goto 21, 3) := by decide +kernel
theorem dX8_set_97 : decode cX8_set 97 = .ok (.iload_n 1, 1) := by decide +kernel
theorem dX8_set_98 : decode cX8_set 98 = .ok (.iconst 1, 1) := by decide +kernel
theorem dX8_set_99 : decode cX8_set 99 = .ok (.if_icmp .ne 11, 3) := by decide +kernel
theorem dX8_set_102 : decode cX8_set 102 = .ok (.aload_n 0, 1) := by decide +kernel
theorem dX8_set_103 : decode cX8_set 103 = .ok (.iload_n 2, 1) := by decide +kernel
theorem dX8_set_104 : decode cX8_set 104 = .ok (.putfield 78, 3) := by decide +kernel
theorem dX8_set_107 : decode cX8_set 107 = .ok (.goto 8, 3) := by decide +kernel
theorem dX8_set_110 : decode cX8_set 110 = .ok (.aload_n 0, 1) := by decide +kernel
theorem dX8_set_111 : decode cX8_set 111 = .ok (.iload_n 2, 1) := by decide +kernel
theorem dX8_set_112 : decode cX8_set 112 = .ok (.putfield 93, 3) := by decide +kernel
theorem dX8_set_115 : decode cX8_set 115 = .ok (.iload_n 3, 1) := by decide +kernel
theorem dX8_set_116 : decode cX8_set 116 = .ok (.ireturn, 1) := by decide +kernel
theorem dX8_price_0 : decode cX8_price 0 = .ok (.iload_n 1, 1) := by decide +kernel
theorem dX8_price_1 : decode cX8_price 1 = .ok (.i2l, 1) := by decide +kernel
theorem dX8_price_2 : decode cX8_price 2 = .ok (.lconst 1, 1) := by decide +kernel
theorem dX8_price_3 : decode cX8_price 3 = .ok (.aload_n 0, 1) := by decide +kernel
theorem dX8_price_4 : decode cX8_price 4 = .ok (.getfield 96, 3) := by decide +kernel
theorem dX8_price_7 : decode cX8_price 7 = .ok (.ifCond .ne 9, 3) := by decide +kernel
theorem dX8_price_10 : decode cX8_price 10 = .ok (.ldc2_w 91, 3) := by decide +kernel
theorem dX8_price_13 : decode cX8_price 13 = .ok (.goto 17, 3) := by decide +kernel
theorem dX8_price_16 : decode cX8_price 16 = .ok (.aload_n 0, 1) := by decide +kernel
theorem dX8_price_17 : decode cX8_price 17 = .ok (.getfield 7, 3) := by decide +kernel
theorem dX8_price_20 : decode cX8_price 20 = .ok (.aload_n 0, 1) := by decide +kernel
theorem dX8_price_21 : decode cX8_price 21 = .ok (.getfield 96, 3) := by decide +kernel
theorem dX8_price_24 : decode cX8_price 24 = .ok (.iconst 1, 1) := by decide +kernel
theorem dX8_price_25 : decode cX8_price 25 = .ok (.isub, 1) := by decide +kernel
theorem dX8_price_26 : decode cX8_price 26 = .ok (.iaload, 1) := by decide +kernel
theorem dX8_price_27 : decode cX8_price 27 = .ok (.iconst 1, 1) := by decide +kernel
theorem dX8_price_28 : decode cX8_price 28 = .ok (.isub, 1) := by decide +kernel
theorem dX8_price_29 : decode cX8_price 29 = .ok (.i2l, 1) := by decide +kernel
theorem dX8_price_30 : decode cX8_price 30 = .ok (.invokestatic 83, 3) := by decide +kernel
theorem dX8_price_33 : decode cX8_price 33 = .ok (.ifCond .ne 6, 3) := by decide +kernel
theorem dX8_price_36 : decode cX8_price 36 = .ok (.bipush (-2), 2) := by decide +kernel
theorem dX8_price_38 : decode cX8_price 38 = .ok (.ireturn, 1) := by decide +kernel
theorem dX8_price_39 : decode cX8_price 39 = .ok (.aload_n 0, 1) := by decide +kernel
theorem dX8_price_40 : decode cX8_price 40 = .ok (.getfield 96, 3) := by decide +kernel
theorem dX8_price_43 : decode cX8_price 43 = .ok (.iconst 5, 1) := by decide +kernel
theorem dX8_price_44 : decode cX8_price 44 = .ok (.if_icmp .ne 6, 3) := by decide +kernel
theorem dX8_price_47 : decode cX8_price 47 = .ok (.bipush (-4), 2) := by decide +kernel
theorem dX8_price_49 : decode cX8_price 49 = .ok (.ireturn, 1) := by decide +kernel
theorem dX8_price_50 : decode cX8_price 50 = .ok (.aload_n 0, 1) := by decide +kernel
theorem dX8_price_51 : decode cX8_price 51 = .ok (.getfield 7, 3) := by decide +kernel
theorem dX8_price_54 : decode cX8_price 54 = .ok (.aload_n 0, 1) := by decide +kernel
theorem dX8_price_55 : decode cX8_price 55 = .ok (.getfield 96, 3) := by decide +kernel
theorem dX8_price_58 : decode cX8_price 58 = .ok (.iload_n 1, 1) := by decide +kernel
theorem dX8_price_59 : decode cX8_price 59 = .ok (.iastore, 1) := by decide +kernel
theorem dX8_price_60 : decode cX8_price 60 = .ok (.aload_n 0, 1) := by decide +kernel
theorem dX8_price_61 : decode cX8_price 61 = .ok (.dup, 1) := by decide +kernel
theorem dX8_price_62 : decode cX8_price 62 = .ok (.getfield 96, 3) := by decide +kernel
theorem dX8_price_65 : decode cX8_price 65 = .ok (.iconst 1, 1) := by decide +kernel
theorem dX8_price_66 : decode cX8_price 66 = .ok (.iadd, 1) := by decide +kernel
theorem dX8_price_67 : decode cX8_price 67 = .ok (.putfield 96, 3) := by decide +kernel
theorem dX8_price_70 : decode cX8_price 70 = .ok (.aload_n 0, 1) := by decide +kernel
theorem dX8_price_71 : decode cX8_price 71 = .ok (.getfield 96, 3) := by decide +kernel
theorem dX8_price_74 : decode cX8_price 74 = .ok (.iconst 1, 1) := by decide +kernel
theorem dX8_price_75 : decode cX8_price 75 = .ok (.isub, 1) := by decide +kernel
theorem dX8_price_76 : decode cX8_price 76 = .ok (.ireturn, 1) := by decide +kernel
theorem dX8_sort_0 : decode cX8_sort 0 = .ok (.iload_n 1, 1) := by decide +kernel
theorem dX8_sort_1 : decode cX8_sort 1 = .ok (.i2l, 1) := by decide +kernel
theorem dX8_sort_2 : decode cX8_sort 2 = .ok (.lconst 0, 1) := by decide +kernel
theorem dX8_sort_3 : decode cX8_sort 3 = .ok (.ldc2_w 99, 3) := by decide +kernel
theorem dX8_sort_6 : decode cX8_sort 6 = .ok (.invokestatic 83, 3) := by decide +kernel
theorem dX8_sort_9 : decode cX8_sort 9 = .ok (.ifCond .eq 27, 3) := by decide +kernel
theorem dX8_sort_12 : decode cX8_sort 12 = .ok (.iload_n 2, 1) := by decide +kernel
theorem dX8_sort_13 : decode cX8_sort 13 = .ok (.i2l, 1) := by decide +kernel
theorem dX8_sort_14 : decode cX8_sort 14 = .ok (.lconst 0, 1) := by decide +kernel
theorem dX8_sort_15 : decode cX8_sort 15 = .ok (.ldc2_w 91, 3) := by decide +kernel
theorem dX8_sort_18 : decode cX8_sort 18 = .ok (.invokestatic 83, 3) := by decide +kernel
theorem dX8_sort_21 : decode cX8_sort 21 = .ok (.ifCond .eq 15, 3) := by decide +kernel
theorem dX8_sort_24 : decode cX8_sort 24 = .ok (.iload_n 3, 1) := by decide +kernel
theorem dX8_sort_25 : decode cX8_sort 25 = .ok (.i2l, 1) := by decide +kernel
theorem dX8_sort_26 : decode cX8_sort 26 = .ok (.lconst 0, 1) := by decide +kernel
theorem dX8_sort_27 : decode cX8_sort 27 = .ok (.ldc2_w 101, 3) := by decide +kernel
theorem dX8_sort_30 : decode cX8_sort 30 = .ok (.invokestatic 83, 3) := by decide +kernel
theorem dX8_sort_33 : decode cX8_sort 33 = .ok (.ifCond .ne 6, 3) := by decide +kernel
theorem dX8_sort_36 : decode cX8_sort 36 = .ok (.bipush (-2), 2) := by decide +kernel
theorem dX8_sort_38 : decode cX8_sort 38 = .ok (.ireturn, 1) := by decide +kernel
theorem dX8_sort_39 : decode cX8_sort 39 = .ok (.aload_n 0, 1) := by decide +kernel
theorem dX8_sort_40 : decode cX8_sort 40 = .ok (.getfield 103, 3) := by decide +kernel
theorem dX8_sort_43 : decode cX8_sort 43 = .ok (.iconst 3, 1) := by decide +kernel
theorem dX8_sort_44 : decode cX8_sort 44 = .ok (.if_icmp .ne 6, 3) := by decide +kernel
theorem dX8_sort_47 : decode cX8_sort 47 = .ok (.bipush (-4), 2) := by decide +kernel
theorem dX8_sort_49 : decode cX8_sort 49 = .ok (.ireturn, 1) := by decide +kernel
theorem dX8_sort_50 : decode cX8_sort 50 = .ok (.aload_n 0, 1) := by decide +kernel
theorem dX8_sort_51 : decode cX8_sort 51 = .ok (.getfield 13, 3) := by decide +kernel
theorem dX8_sort_54 : decode cX8_sort 54 = .ok (.aload_n 0, 1) := by decide +kernel
theorem dX8_sort_55 : decode cX8_sort 55 = .ok (.getfield 103, 3) := by decide +kernel
theorem dX8_sort_58 : decode cX8_sort 58 = .ok (.iload_n 1, 1) := by decide +kernel
theorem dX8_sort_59 : decode cX8_sort 59 = .ok (.iastore, 1) := by decide +kernel
theorem dX8_sort_60 : decode cX8_sort 60 = .ok (.aload_n 0, 1) := by decide +kernel
theorem dX8_sort_61 : decode cX8_sort 61 = .ok (.getfield 16, 3) := by decide +kernel
theorem dX8_sort_64 : decode cX8_sort 64 = .ok (.aload_n 0, 1) := by decide +kernel
theorem dX8_sort_65 : decode cX8_sort 65 = .ok (.getfield 103, 3) := by decide +kernel
theorem dX8_sort_68 : decode cX8_sort 68 = .ok (.iload_n 2, 1) := by decide +kernel
theorem dX8_sort_69 : decode cX8_sort 69 = .ok (.iastore, 1) := by decide +kernel
theorem dX8_sort_70 : decode cX8_sort 70 = .ok (.aload_n 0, 1) := by decide +kernel
theorem dX8_sort_71 : decode cX8_sort 71 = .ok (.getfield 19, 3) := by decide +kernel
theorem dX8_sort_74 : decode cX8_sort 74 = .ok (.aload_n 0, 1) := by decide +kernel
theorem dX8_sort_75 : decode cX8_sort 75 = .ok (.getfield 103, 3) := by decide +kernel
theorem dX8_sort_78 : decode cX8_sort 78 = .ok (.iload_n 3, 1) := by decide +kernel
theorem dX8_sort_79 : decode cX8_sort 79 = .ok (.iastore, 1) := by decide +kernel
theorem dX8_sort_80 : decode cX8_sort 80 = .ok (.aload_n 0, 1) := by decide +kernel
theorem dX8_sort_81 : decode cX8_sort 81 = .ok (.getfield 22, 3) := by decide +kernel
theorem dX8_sort_84 : decode cX8_sort 84 = .ok (.aload_n 0, 1) := by decide +kernel
theorem dX8_sort_85 : decode cX8_sort 85 = .ok (.getfield 103, 3) := by decide +kernel
theorem dX8_sort_88 : decode cX8_sort 88 = .ok (.iconst (-1), 1) := by decide +kernel
theorem dX8_sort_89 : decode cX8_sort 89 = .ok (.iastore, 1) := by decide +kernel
theorem dX8_sort_90 : decode cX8_sort 90 = .ok (.aload_n 0, 1) := by decide +kernel
theorem dX8_sort_91 : decode cX8_sort 91 = .ok (.dup, 1) := by decide +kernel
theorem dX8_sort_92 : decode cX8_sort 92 = .ok (.getfield 103, 3) := by decide +kernel
theorem dX8_sort_95 : decode cX8_sort 95 = .ok (.iconst 1, 1) := by decide +kernel
theorem dX8_sort_96 : decode cX8_sort 96 = .ok (.iadd, 1) := by decide +kernel
theorem dX8_sort_97 : decode cX8_sort 97 = .ok (.putfield 103, 3) := by decide +kernel
theorem dX8_sort_100 : decode cX8_sort 100 = .ok (.aload_n 0, 1) := by decide +kernel
theorem dX8_sort_101 : decode cX8_sort 101 = .ok (.getfield 103, 3) := by decide +kernel
theorem dX8_sort_104 : decode cX8_sort 104 = .ok (.iconst 1, 1) := by decide +kernel
theorem dX8_sort_105 : decode cX8_sort 105 = .ok (.isub, 1) := by decide +kernel
theorem dX8_sort_106 : decode cX8_sort 106 = .ok (.ireturn, 1) := by decide +kernel
theorem dX8_isSort_0 : decode cX8_isSort 0 = .ok (.iload_n 1, 1) := by decide +kernel
theorem dX8_isSort_1 : decode cX8_isSort 1 = .ok (.i2l, 1) := by decide +kernel
theorem dX8_isSort_2 : decode cX8_isSort 2 = .ok (.lconst 0, 1) := by decide +kernel
theorem dX8_isSort_3 : decode cX8_isSort 3 = .ok (.aload_n 0, 1) := by decide +kernel
theorem dX8_isSort_4 : decode cX8_isSort 4 = .ok (.getfield 103, 3) := by decide +kernel
theorem dX8_isSort_7 : decode cX8_isSort 7 = .ok (.iconst 1, 1) := by decide +kernel
theorem dX8_isSort_8 : decode cX8_isSort 8 = .ok (.isub, 1) := by decide +kernel
theorem dX8_isSort_9 : decode cX8_isSort 9 = .ok (.i2l, 1) := by decide +kernel
theorem dX8_isSort_10 : decode cX8_isSort 10 = .ok (.invokestatic 83, 3) := by decide +kernel
theorem dX8_isSort_13 : decode cX8_isSort 13 = .ok (.ireturn, 1) := by decide +kernel
theorem dX8_change_0 : decode cX8_change 0 = .ok (.aload_n 0, 1) := by decide +kernel
theorem dX8_change_1 : decode cX8_change 1 = .ok (.iload_n 1, 1) := by decide +kernel
theorem dX8_change_2 : decode cX8_change 2 = .ok (.invokevirtual 106, 3) := by decide +kernel
theorem dX8_change_5 : decode cX8_change 5 = .ok (.ifCond .ne 5, 3) := by decide +kernel
theorem dX8_change_8 : decode cX8_change 8 = .ok (.iconst (-1), 1) := by decide +kernel
theorem dX8_change_9 : decode cX8_change 9 = .ok (.ireturn, 1) := by decide +kernel
theorem dX8_change_10 : decode cX8_change 10 = .ok (.iload_n 2, 1) := by decide +kernel
theorem dX8_change_11 : decode cX8_change 11 = .ok (.i2l, 1) := by decide +kernel
theorem dX8_change_12 : decode cX8_change 12 = .ok (.lconst 0, 1) := by decide +kernel
theorem dX8_change_13 : decode cX8_change 13 = .ok (.ldc2_w 110, 3) := by decide +kernel
theorem dX8_change_16 : decode cX8_change 16 = .ok (.invokestatic 83, 3) := by decide +kernel
theorem dX8_change_19 : decode cX8_change 19 = .ok (.ifCond .eq 47, 3) := by decide +kernel
theorem dX8_change_22 : decode cX8_change 22 = .ok (.iload_n 3, 1) := by decide +kernel
theorem dX8_change_23 : decode cX8_change 23 = .ok (.i2l, 1) := by decide +kernel
theorem dX8_change_24 : decode cX8_change 24 = .ok (.iload_n 2, 1) := by decide +kernel
theorem dX8_change_25 : decode cX8_change 25 = .ok (.iconst 3, 1) := by decide +kernel
theorem dX8_change_26 : decode cX8_change 26 = .ok (.if_icmp .ne 9, 3) := by decide +kernel
theorem dX8_change_29 : decode cX8_change 29 = .ok (.ldc2_w 112, 3) := by decide +kernel
theorem dX8_change_32 : decode cX8_change 32 = .ok (.goto 4, 3) := by decide +kernel
theorem dX8_change_35 : decode cX8_change 35 = .ok (.lconst 0, 1) := by decide +kernel
theorem dX8_change_36 : decode cX8_change 36 = .ok (.iload_n 2, 1) := by decide +kernel
theorem dX8_change_37 : decode cX8_change 37 = .ok (.ifCond .ne 9, 3) := by decide +kernel
theorem dX8_change_40 : decode cX8_change 40 = .ok (.ldc2_w 99, 3) := by decide +kernel
theorem dX8_change_43 : decode cX8_change 43 = .ok (.goto 17, 3) := by decide +kernel
theorem dX8_change_46 : decode cX8_change 46 = .ok (.iload_n 2, 1) := by decide +kernel
theorem dX8_change_47 : decode cX8_change 47 = .ok (.iconst 1, 1) := by decide +kernel
theorem dX8_change_48 : decode cX8_change 48 = .ok (.if_icmp .ne 9, 3) := by decide +kernel
theorem dX8_change_51 : decode cX8_change 51 = .ok (.ldc2_w 91, 3) := by decide +kernel
theorem dX8_change_54 : decode cX8_change 54 = .ok (.goto 6, 3) := by decide +kernel
theorem dX8_change_57 : decode cX8_change 57 = .ok (.ldc2_w 101, 3) := by decide +kernel
theorem dX8_change_60 : decode cX8_change 60 = .ok (.invokestatic 83, 3) := by decide +kernel
theorem dX8_change_63 : decode cX8_change 63 = .ok (.ifCond .ne 6, 3) := by decide +kernel
theorem dX8_change_66 : decode cX8_change 66 = .ok (.bipush (-2), 2) := by decide +kernel
theorem dX8_change_68 : decode cX8_change 68 = .ok (.ireturn, 1) := by decide +kernel
theorem dX8_change_69 : decode cX8_change 69 = .ok (.iload_n 2, 1) := by decide +kernel
theorem dX8_change_70 : decode cX8_change 70 = .ok (.ifCond .ne 12, 3) := by decide +kernel
theorem dX8_change_73 : decode cX8_change 73 = .ok (.aload_n 0, 1) := by decide +kernel
theorem dX8_change_74 : decode cX8_change 74 = .ok (.getfield 13, 3) := by decide +kernel
theorem dX8_change_77 : decode cX8_change 77 = .ok (.iload_n 1, 1) := by decide +kernel
theorem dX8_change_78 : decode cX8_change 78 = .ok (.iaload, 1) := by decide +kernel
theorem dX8_change_79 : decode cX8_change 79 = .ok (.goto 51, 3) := by decide +kernel
theorem dX8_change_82 : decode cX8_change 82 = .ok (.iload_n 2, 1) := by decide +kernel
theorem dX8_change_83 : decode cX8_change 83 = .ok (.iconst 1, 1) := by decide +kernel
theorem dX8_change_84 : decode cX8_change 84 = .ok (.if_icmp .ne 12, 3) := by decide +kernel
theorem dX8_change_87 : decode cX8_change 87 = .ok (.aload_n 0, 1) := by decide +kernel
theorem dX8_change_88 : decode cX8_change 88 = .ok (.getfield 16, 3) := by decide +kernel
theorem dX8_change_91 : decode cX8_change 91 = .ok (.iload_n 1, 1) := by decide +kernel
theorem dX8_change_92 : decode cX8_change 92 = .ok (.iaload, 1) := by decide +kernel
theorem dX8_change_93 : decode cX8_change 93 = .ok (.goto 37, 3) := by decide +kernel
theorem dX8_change_96 : decode cX8_change 96 = .ok (.iload_n 2, 1) := by decide +kernel
theorem dX8_change_97 : decode cX8_change 97 = .ok (.iconst 2, 1) := by decide +kernel
theorem dX8_change_98 : decode cX8_change 98 = .ok (.if_icmp .ne 12, 3) := by decide +kernel
theorem dX8_change_101 : decode cX8_change 101 = .ok (.aload_n 0, 1) := by decide +kernel
theorem dX8_change_102 : decode cX8_change 102 = .ok (.getfield 19, 3) := by decide +kernel
theorem dX8_change_105 : decode cX8_change 105 = .ok (.iload_n 1, 1) := by decide +kernel
theorem dX8_change_106 : decode cX8_change 106 = .ok (.iaload, 1) := by decide +kernel
theorem dX8_change_107 : decode cX8_change 107 = .ok (.goto 23, 3) := by decide +kernel
theorem dX8_change_110 : decode cX8_change 110 = .ok (.aload_n 0, 1) := by decide +kernel
theorem dX8_change_111 : decode cX8_change 111 = .ok (.getfield 22, 3) := by decide +kernel
theorem dX8_change_114 : decode cX8_change 114 = .ok (.iload_n 1, 1) := by decide +kernel
theorem dX8_change_115 : decode cX8_change 115 = .ok (.iaload, 1) := by decide +kernel
theorem dX8_change_116 : decode cX8_change 116 = .ok (.ifCond .ge 8, 3) := by decide +kernel
theorem dX8_change_119 : decode cX8_change 119 = .ok (.bipush (-6), 2) := by decide +kernel
theorem dX8_change_121 : decode cX8_change 121 = .ok (.goto 9, 3) := by decide +kernel
theorem dX8_change_124 : decode cX8_change 124 = .ok (.aload_n 0, 1) := by decide +kernel
theorem dX8_change_125 : decode cX8_change 125 = .ok (.getfield 22, 3) := by decide +kernel
theorem dX8_change_128 : decode cX8_change 128 = .ok (.iload_n 1, 1) := by decide +kernel
theorem dX8_change_129 : decode cX8_change 129 = .ok (.iaload, 1) := by decide +kernel
theorem dX8_change_130 : decode cX8_change 130 = .ok (.istore 4, 2) := by decide +kernel
theorem dX8_change_132 : decode cX8_change 132 = .ok (.iload_n 2, 1) := by decide +kernel
theorem dX8_change_133 : decode cX8_change 133 = .ok (.ifCond .ne 13, 3) := by decide +kernel
theorem dX8_change_136 : decode cX8_change 136 = .ok (.aload_n 0, 1) := by decide +kernel
theorem dX8_change_137 : decode cX8_change 137 = .ok (.getfield 13, 3) := by decide +kernel
theorem dX8_change_140 : decode cX8_change 140 = .ok (.iload_n 1, 1) := by decide +kernel
theorem dX8_change_141 : decode cX8_change 141 = .ok (.iload_n 3, 1) := by decide +kernel
theorem dX8_change_142 : decode cX8_change 142 = .ok (.iastore, 1) := by decide +kernel
theorem dX8_change_143 : decode cX8_change 143 = .ok (.goto 40, 3) := by decide +kernel
theorem dX8_change_146 : decode cX8_change 146 = .ok (.iload_n 2, 1) := by decide +kernel
theorem dX8_change_147 : decode cX8_change 147 = .ok (.iconst 1, 1) := by decide +kernel
theorem dX8_change_148 : decode cX8_change 148 = .ok (.if_icmp .ne 13, 3) := by decide +kernel
theorem dX8_change_151 : decode cX8_change 151 = .ok (.aload_n 0, 1) := by decide +kernel
theorem dX8_change_152 : decode cX8_change 152 = .ok (.getfield 16, 3) := by decide +kernel
theorem dX8_change_155 : decode cX8_change 155 = .ok (.iload_n 1, 1) := by decide +kernel
theorem dX8_change_156 : decode cX8_change 156 = .ok (.iload_n 3, 1) := by decide +kernel
theorem dX8_change_157 : decode cX8_change 157 = .ok (.iastore, 1) := by decide +kernel
theorem dX8_change_158 : decode cX8_change 158 = .ok (.goto 25, 3) := by decide +kernel
theorem dX8_change_161 : decode cX8_change 161 = .ok (.iload_n 2, 1) := by decide +kernel
theorem dX8_change_162 : decode cX8_change 162 = .ok (.iconst 2, 1) := by decide +kernel
theorem dX8_change_163 : decode cX8_change 163 = .ok (.if_icmp .ne 13, 3) := by decide +kernel
theorem dX8_change_166 : decode cX8_change 166 = .ok (.aload_n 0, 1) := by decide +kernel
theorem dX8_change_167 : decode cX8_change 167 = .ok (.getfield 19, 3) := by decide +kernel
theorem dX8_change_170 : decode cX8_change 170 = .ok (.iload_n 1, 1) := by decide +kernel
theorem dX8_change_171 : decode cX8_change 171 = .ok (.iload_n 3, 1) := by decide +kernel
theorem dX8_change_172 : decode cX8_change 172 = .ok (.iastore, 1) := by decide +kernel
theorem dX8_change_173 : decode cX8_change 173 = .ok (.goto 10, 3) := by decide +kernel
theorem dX8_change_176 : decode cX8_change 176 = .ok (.aload_n 0, 1) := by decide +kernel
theorem dX8_change_177 : decode cX8_change 177 = .ok (.getfield 22, 3) := by decide +kernel
theorem dX8_change_180 : decode cX8_change 180 = .ok (.iload_n 1, 1) := by decide +kernel
theorem dX8_change_181 : decode cX8_change 181 = .ok (.iload_n 3, 1) := by decide +kernel
theorem dX8_change_182 : decode cX8_change 182 = .ok (.iastore, 1) := by decide +kernel
theorem dX8_change_183 : decode cX8_change 183 = .ok (.iload 4, 2) := by decide +kernel
theorem dX8_change_185 : decode cX8_change 185 = .ok (.ireturn, 1) := by decide +kernel
theorem dX8_worthOf_0 : decode cX8_worthOf 0 = .ok (.aload_n 0, 1) := by decide +kernel
theorem dX8_worthOf_1 : decode cX8_worthOf 1 = .ok (.getfield 16, 3) := by decide +kernel
theorem dX8_worthOf_4 : decode cX8_worthOf 4 = .ok (.iload_n 1, 1) := by decide +kernel
theorem dX8_worthOf_5 : decode cX8_worthOf 5 = .ok (.iaload, 1) := by decide +kernel
theorem dX8_worthOf_6 : decode cX8_worthOf 6 = .ok (.aload_n 0, 1) := by decide +kernel
theorem dX8_worthOf_7 : decode cX8_worthOf 7 = .ok (.getfield 19, 3) := by decide +kernel
theorem dX8_worthOf_10 : decode cX8_worthOf 10 = .ok (.iload_n 1, 1) := by decide +kernel
theorem dX8_worthOf_11 : decode cX8_worthOf 11 = .ok (.iaload, 1) := by decide +kernel
theorem dX8_worthOf_12 : decode cX8_worthOf 12 = .ok (.iload_n 2, 1) := by decide +kernel
theorem dX8_worthOf_13 : decode cX8_worthOf 13 = .ok (.imul, 1) := by decide +kernel
theorem dX8_worthOf_14 : decode cX8_worthOf 14 = .ok (.isub, 1) := by decide +kernel
theorem dX8_worthOf_15 : decode cX8_worthOf 15 = .ok (.istore_n 3, 1) := by decide +kernel
theorem dX8_worthOf_16 : decode cX8_worthOf 16 = .ok (.iload_n 3, 1) := by decide +kernel
theorem dX8_worthOf_17 : decode cX8_worthOf 17 = .ok (.ifCond .ge 7, 3) := by decide +kernel
theorem dX8_worthOf_20 : decode cX8_worthOf 20 = .ok (.iconst 0, 1) := by decide +kernel
theorem dX8_worthOf_21 : decode cX8_worthOf 21 = .ok (.goto 4, 3) := by decide +kernel
theorem dX8_worthOf_24 : decode cX8_worthOf 24 = .ok (.iload_n 3, 1) := by decide +kernel
theorem dX8_worthOf_25 : decode cX8_worthOf 25 = .ok (.ireturn, 1) := by decide +kernel
theorem dX8_worth_0 : decode cX8_worth 0 = .ok (.aload_n 0, 1) := by decide +kernel
theorem dX8_worth_1 : decode cX8_worth 1 = .ok (.iload_n 1, 1) := by decide +kernel
theorem dX8_worth_2 : decode cX8_worth 2 = .ok (.invokevirtual 106, 3) := by decide +kernel
theorem dX8_worth_5 : decode cX8_worth 5 = .ok (.ifCond .ne 5, 3) := by decide +kernel
theorem dX8_worth_8 : decode cX8_worth 8 = .ok (.iconst (-1), 1) := by decide +kernel
theorem dX8_worth_9 : decode cX8_worth 9 = .ok (.ireturn, 1) := by decide +kernel
theorem dX8_worth_10 : decode cX8_worth 10 = .ok (.iload_n 2, 1) := by decide +kernel
theorem dX8_worth_11 : decode cX8_worth 11 = .ok (.i2l, 1) := by decide +kernel
theorem dX8_worth_12 : decode cX8_worth 12 = .ok (.lconst 0, 1) := by decide +kernel
theorem dX8_worth_13 : decode cX8_worth 13 = .ok (.ldc2_w 114, 3) := by decide +kernel
theorem dX8_worth_16 : decode cX8_worth 16 = .ok (.invokestatic 83, 3) := by decide +kernel
theorem dX8_worth_19 : decode cX8_worth 19 = .ok (.ifCond .eq 12, 3) := by decide +kernel
theorem dX8_worth_22 : decode cX8_worth 22 = .ok (.aload_n 0, 1) := by decide +kernel
theorem dX8_worth_23 : decode cX8_worth 23 = .ok (.iload_n 1, 1) := by decide +kernel
theorem dX8_worth_24 : decode cX8_worth 24 = .ok (.iload_n 2, 1) := by decide +kernel
theorem dX8_worth_25 : decode cX8_worth 25 = .ok (.invokevirtual 116, 3) := by decide +kernel
theorem dX8_worth_28 : decode cX8_worth 28 = .ok (.goto 5, 3) := by decide +kernel
theorem dX8_worth_31 : decode cX8_worth 31 = .ok (.bipush (-2), 2) := by decide +kernel
theorem dX8_worth_33 : decode cX8_worth 33 = .ok (.ireturn, 1) := by decide +kernel
theorem dX8_power_0 : decode cX8_power 0 = .ok (.lconst 1, 1) := by decide +kernel
theorem dX8_power_1 : decode cX8_power 1 = .ok (.iconst 2, 1) := by decide +kernel
theorem dX8_power_2 : decode cX8_power 2 = .ok (.iload_n 0, 1) := by decide +kernel
theorem dX8_power_3 : decode cX8_power 3 = .ok (.imul, 1) := by decide +kernel
theorem dX8_power_4 : decode cX8_power 4 = .ok (.lshl, 1) := by decide +kernel
theorem dX8_power_5 : decode cX8_power 5 = .ok (.lreturn, 1) := by decide +kernel
theorem dX8_lowest_0 : decode cX8_lowest 0 = .ok (.lload_n 0, 1) := by decide +kernel
theorem dX8_lowest_1 : decode cX8_lowest 1 = .ok (.lconst 0, 1) := by decide +kernel
theorem dX8_lowest_2 : decode cX8_lowest 2 = .ok (.lcmp, 1) := by decide +kernel
theorem dX8_lowest_3 : decode cX8_lowest 3 = .ok (.ifCond .ge 8, 3) := by decide +kernel
theorem dX8_lowest_6 : decode cX8_lowest 6 = .ok (.lload_n 0, 1) := by decide +kernel
theorem dX8_lowest_7 : decode cX8_lowest 7 = .ok (.lneg, 1) := by decide +kernel
theorem dX8_lowest_8 : decode cX8_lowest 8 = .ok (.goto 4, 3) := by decide +kernel
theorem dX8_lowest_11 : decode cX8_lowest 11 = .ok (.lload_n 0, 1) := by decide +kernel
theorem dX8_lowest_12 : decode cX8_lowest 12 = .ok (.lstore 5, 2) := by decide +kernel
theorem dX8_lowest_14 : decode cX8_lowest 14 = .ok (.lload_n 2, 1) := by decide +kernel
theorem dX8_lowest_15 : decode cX8_lowest 15 = .ok (.lstore 7, 2) := by decide +kernel
theorem dX8_lowest_17 : decode cX8_lowest 17 = .ok (.lload 7, 2) := by decide +kernel
theorem dX8_lowest_19 : decode cX8_lowest 19 = .ok (.lconst 0, 1) := by decide +kernel
theorem dX8_lowest_20 : decode cX8_lowest 20 = .ok (.lcmp, 1) := by decide +kernel
theorem dX8_lowest_21 : decode cX8_lowest 21 = .ok (.ifCond .eq 21, 3) := by decide +kernel
theorem dX8_lowest_24 : decode cX8_lowest 24 = .ok (.lload 5, 2) := by decide +kernel
theorem dX8_lowest_26 : decode cX8_lowest 26 = .ok (.lload 7, 2) := by decide +kernel
theorem dX8_lowest_28 : decode cX8_lowest 28 = .ok (.lrem, 1) := by decide +kernel
theorem dX8_lowest_29 : decode cX8_lowest 29 = .ok (.lstore 9, 2) := by decide +kernel
theorem dX8_lowest_31 : decode cX8_lowest 31 = .ok (.lload 7, 2) := by decide +kernel
theorem dX8_lowest_33 : decode cX8_lowest 33 = .ok (.lstore 5, 2) := by decide +kernel
theorem dX8_lowest_35 : decode cX8_lowest 35 = .ok (.lload 9, 2) := by decide +kernel
theorem dX8_lowest_37 : decode cX8_lowest 37 = .ok (.lstore 7, 2) := by decide +kernel
theorem dX8_lowest_39 : decode cX8_lowest 39 = .ok (.goto (-22), 3) := by decide +kernel
theorem dX8_lowest_42 : decode cX8_lowest 42 = .ok (.iload 4, 2) := by decide +kernel
theorem dX8_lowest_44 : decode cX8_lowest 44 = .ok (.ifCond .ne 10, 3) := by decide +kernel
theorem dX8_lowest_47 : decode cX8_lowest 47 = .ok (.lload_n 0, 1) := by decide +kernel
theorem dX8_lowest_48 : decode cX8_lowest 48 = .ok (.lload 5, 2) := by decide +kernel
theorem dX8_lowest_50 : decode cX8_lowest 50 = .ok (.ldiv, 1) := by decide +kernel
theorem dX8_lowest_51 : decode cX8_lowest 51 = .ok (.goto 7, 3) := by decide +kernel
theorem dX8_lowest_54 : decode cX8_lowest 54 = .ok (.lload_n 2, 1) := by decide +kernel
theorem dX8_lowest_55 : decode cX8_lowest 55 = .ok (.lload 5, 2) := by decide +kernel
theorem dX8_lowest_57 : decode cX8_lowest 57 = .ok (.ldiv, 1) := by decide +kernel
theorem dX8_lowest_58 : decode cX8_lowest 58 = .ok (.lreturn, 1) := by decide +kernel
theorem dX8_isPart_0 : decode cX8_isPart 0 = .ok (.iload_n 0, 1) := by decide +kernel
theorem dX8_isPart_1 : decode cX8_isPart 1 = .ok (.i2l, 1) := by decide +kernel
theorem dX8_isPart_2 : decode cX8_isPart 2 = .ok (.lconst 0, 1) := by decide +kernel
theorem dX8_isPart_3 : decode cX8_isPart 3 = .ok (.lconst 1, 1) := by decide +kernel
theorem dX8_isPart_4 : decode cX8_isPart 4 = .ok (.invokestatic 83, 3) := by decide +kernel
theorem dX8_isPart_7 : decode cX8_isPart 7 = .ok (.ireturn, 1) := by decide +kernel
theorem dX8_beginEnd_0 : decode cX8_beginEnd 0 = .ok (.aload_n 0, 1) := by decide +kernel
theorem dX8_beginEnd_1 : decode cX8_beginEnd 1 = .ok (.lconst 1, 1) := by decide +kernel
theorem dX8_beginEnd_2 : decode cX8_beginEnd 2 = .ok (.putfield 120, 3) := by decide +kernel
theorem dX8_beginEnd_5 : decode cX8_beginEnd 5 = .ok (.iconst 0, 1) := by decide +kernel
theorem dX8_beginEnd_6 : decode cX8_beginEnd 6 = .ok (.istore_n 1, 1) := by decide +kernel
theorem dX8_beginEnd_7 : decode cX8_beginEnd 7 = .ok (.iload_n 1, 1) := by decide +kernel
theorem dX8_beginEnd_8 : decode cX8_beginEnd 8 = .ok (.bipush 12, 2) := by decide +kernel
theorem dX8_beginEnd_10 : decode cX8_beginEnd 10 = .ok (.if_icmp .gt 23, 3) := by decide +kernel
theorem dX8_beginEnd_13 : decode cX8_beginEnd 13 = .ok (.aload_n 0, 1) := by decide +kernel
theorem dX8_beginEnd_14 : decode cX8_beginEnd 14 = .ok (.getfield 28, 3) := by decide +kernel
theorem dX8_beginEnd_17 : decode cX8_beginEnd 17 = .ok (.iload_n 1, 1) := by decide +kernel
theorem dX8_beginEnd_18 : decode cX8_beginEnd 18 = .ok (.aload_n 0, 1) := by decide +kernel
theorem dX8_beginEnd_19 : decode cX8_beginEnd 19 = .ok (.getfield 93, 3) := by decide +kernel
theorem dX8_beginEnd_22 : decode cX8_beginEnd 22 = .ok (.i2l, 1) := by decide +kernel
theorem dX8_beginEnd_23 : decode cX8_beginEnd 23 = .ok (.iload_n 1, 1) := by decide +kernel
theorem dX8_beginEnd_24 : decode cX8_beginEnd 24 = .ok (.i2l, 1) := by decide +kernel
theorem dX8_beginEnd_25 : decode cX8_beginEnd 25 = .ok (.lmul, 1) := by decide +kernel
theorem dX8_beginEnd_26 : decode cX8_beginEnd 26 = .ok (.lastore, 1) := by decide +kernel
theorem dX8_beginEnd_27 : decode cX8_beginEnd 27 = .ok (.iinc 1 1, 3) := by decide +kernel
theorem dX8_beginEnd_30 : decode cX8_beginEnd 30 = .ok (.goto (-23), 3) := by decide +kernel
theorem dX8_beginEnd_33 : decode cX8_beginEnd 33 = .ok (.return_, 1) := by decide +kernel
theorem dX8_buyer_0 : decode cX8_buyer 0 = .ok (.bipush 12, 2) := by decide +kernel
theorem dX8_buyer_2 : decode cX8_buyer 2 = .ok (.istore_n 3, 1) := by decide +kernel
theorem dX8_buyer_3 : decode cX8_buyer 3 = .ok (.iload_n 3, 1) := by decide +kernel
theorem dX8_buyer_4 : decode cX8_buyer 4 = .ok (.ifCond .lt 79, 3) := by decide +kernel
theorem dX8_buyer_7 : decode cX8_buyer 7 = .ok (.iload_n 3, 1) := by decide +kernel
theorem dX8_buyer_8 : decode cX8_buyer 8 = .ok (.ifCond .le 11, 3) := by decide +kernel
theorem dX8_buyer_11 : decode cX8_buyer 11 = .ok (.iload_n 1, 1) := by decide +kernel
theorem dX8_buyer_12 : decode cX8_buyer 12 = .ok (.ifCond .le 7, 3) := by decide +kernel
theorem dX8_buyer_15 : decode cX8_buyer 15 = .ok (.iconst 1, 1) := by decide +kernel
theorem dX8_buyer_16 : decode cX8_buyer 16 = .ok (.goto 4, 3) := by decide +kernel
theorem dX8_buyer_19 : decode cX8_buyer 19 = .ok (.iconst 0, 1) := by decide +kernel
theorem dX8_buyer_20 : decode cX8_buyer 20 = .ok (.istore 4, 2) := by decide +kernel
theorem dX8_buyer_22 : decode cX8_buyer 22 = .ok (.aload_n 0, 1) := by decide +kernel
theorem dX8_buyer_23 : decode cX8_buyer 23 = .ok (.getfield 28, 3) := by decide +kernel
theorem dX8_buyer_26 : decode cX8_buyer 26 = .ok (.iload_n 3, 1) := by decide +kernel
theorem dX8_buyer_27 : decode cX8_buyer 27 = .ok (.iload 4, 2) := by decide +kernel
theorem dX8_buyer_29 : decode cX8_buyer 29 = .ok (.ifCond .eq 37, 3) := by decide +kernel
theorem dX8_buyer_32 : decode cX8_buyer 32 = .ok (.iload_n 1, 1) := by decide +kernel
theorem dX8_buyer_33 : decode cX8_buyer 33 = .ok (.i2l, 1) := by decide +kernel
theorem dX8_buyer_34 : decode cX8_buyer 34 = .ok (.iload_n 2, 1) := by decide +kernel
theorem dX8_buyer_35 : decode cX8_buyer 35 = .ok (.i2l, 1) := by decide +kernel
theorem dX8_buyer_36 : decode cX8_buyer 36 = .ok (.aload_n 0, 1) := by decide +kernel
theorem dX8_buyer_37 : decode cX8_buyer 37 = .ok (.getfield 120, 3) := by decide +kernel
theorem dX8_buyer_40 : decode cX8_buyer 40 = .ok (.lmul, 1) := by decide +kernel
theorem dX8_buyer_41 : decode cX8_buyer 41 = .ok (.aload_n 0, 1) := by decide +kernel
theorem dX8_buyer_42 : decode cX8_buyer 42 = .ok (.getfield 28, 3) := by decide +kernel
theorem dX8_buyer_45 : decode cX8_buyer 45 = .ok (.iload_n 3, 1) := by decide +kernel
theorem dX8_buyer_46 : decode cX8_buyer 46 = .ok (.iconst 1, 1) := by decide +kernel
theorem dX8_buyer_47 : decode cX8_buyer 47 = .ok (.isub, 1) := by decide +kernel
theorem dX8_buyer_48 : decode cX8_buyer 48 = .ok (.laload, 1) := by decide +kernel
theorem dX8_buyer_49 : decode cX8_buyer 49 = .ok (.ladd, 1) := by decide +kernel
theorem dX8_buyer_50 : decode cX8_buyer 50 = .ok (.lmul, 1) := by decide +kernel
theorem dX8_buyer_51 : decode cX8_buyer 51 = .ok (.iconst 4, 1) := by decide +kernel
theorem dX8_buyer_52 : decode cX8_buyer 52 = .ok (.iload_n 1, 1) := by decide +kernel
theorem dX8_buyer_53 : decode cX8_buyer 53 = .ok (.isub, 1) := by decide +kernel
theorem dX8_buyer_54 : decode cX8_buyer 54 = .ok (.i2l, 1) := by decide +kernel
theorem dX8_buyer_55 : decode cX8_buyer 55 = .ok (.aload_n 0, 1) := by decide +kernel
theorem dX8_buyer_56 : decode cX8_buyer 56 = .ok (.getfield 28, 3) := by decide +kernel
theorem dX8_buyer_59 : decode cX8_buyer 59 = .ok (.iload_n 3, 1) := by decide +kernel
theorem dX8_buyer_60 : decode cX8_buyer 60 = .ok (.laload, 1) := by decide +kernel
theorem dX8_buyer_61 : decode cX8_buyer 61 = .ok (.lmul, 1) := by decide +kernel
theorem dX8_buyer_62 : decode cX8_buyer 62 = .ok (.ladd, 1) := by decide +kernel
theorem dX8_buyer_63 : decode cX8_buyer 63 = .ok (.goto 13, 3) := by decide +kernel
theorem dX8_buyer_66 : decode cX8_buyer 66 = .ok (.ldc2_w 99, 3) := by decide +kernel
theorem dX8_buyer_69 : decode cX8_buyer 69 = .ok (.aload_n 0, 1) := by decide +kernel
theorem dX8_buyer_70 : decode cX8_buyer 70 = .ok (.getfield 28, 3) := by decide +kernel
theorem dX8_buyer_73 : decode cX8_buyer 73 = .ok (.iload_n 3, 1) := by decide +kernel
theorem dX8_buyer_74 : decode cX8_buyer 74 = .ok (.laload, 1) := by decide +kernel
theorem dX8_buyer_75 : decode cX8_buyer 75 = .ok (.lmul, 1) := by decide +kernel
theorem dX8_buyer_76 : decode cX8_buyer 76 = .ok (.lastore, 1) := by decide +kernel
theorem dX8_buyer_77 : decode cX8_buyer 77 = .ok (.iinc 3 (-1), 3) := by decide +kernel
theorem dX8_buyer_80 : decode cX8_buyer 80 = .ok (.goto (-77), 3) := by decide +kernel
theorem dX8_buyer_83 : decode cX8_buyer 83 = .ok (.aload_n 0, 1) := by decide +kernel
theorem dX8_buyer_84 : decode cX8_buyer 84 = .ok (.dup, 1) := by decide +kernel
theorem dX8_buyer_85 : decode cX8_buyer 85 = .ok (.getfield 120, 3) := by decide +kernel
theorem dX8_buyer_88 : decode cX8_buyer 88 = .ok (.ldc2_w 99, 3) := by decide +kernel
theorem dX8_buyer_91 : decode cX8_buyer 91 = .ok (.lmul, 1) := by decide +kernel
theorem dX8_buyer_92 : decode cX8_buyer 92 = .ok (.putfield 120, 3) := by decide +kernel
theorem dX8_buyer_95 : decode cX8_buyer 95 = .ok (.return_, 1) := by decide +kernel
theorem dX8_dayAt_0 : decode cX8_dayAt 0 = .ok (.aload_n 0, 1) := by decide +kernel
theorem dX8_dayAt_1 : decode cX8_dayAt 1 = .ok (.getfield 103, 3) := by decide +kernel
theorem dX8_dayAt_4 : decode cX8_dayAt 4 = .ok (.iconst 1, 1) := by decide +kernel
theorem dX8_dayAt_5 : decode cX8_dayAt 5 = .ok (.isub, 1) := by decide +kernel
theorem dX8_dayAt_6 : decode cX8_dayAt 6 = .ok (.istore_n 3, 1) := by decide +kernel
theorem dX8_dayAt_7 : decode cX8_dayAt 7 = .ok (.iload_n 3, 1) := by decide +kernel
theorem dX8_dayAt_8 : decode cX8_dayAt 8 = .ok (.ifCond .lt 34, 3) := by decide +kernel
theorem dX8_dayAt_11 : decode cX8_dayAt 11 = .ok (.aload_n 0, 1) := by decide +kernel
theorem dX8_dayAt_12 : decode cX8_dayAt 12 = .ok (.aload_n 0, 1) := by decide +kernel
theorem dX8_dayAt_13 : decode cX8_dayAt 13 = .ok (.iload_n 3, 1) := by decide +kernel
theorem dX8_dayAt_14 : decode cX8_dayAt 14 = .ok (.iload_n 1, 1) := by decide +kernel
theorem dX8_dayAt_15 : decode cX8_dayAt 15 = .ok (.invokevirtual 116, 3) := by decide +kernel
theorem dX8_dayAt_18 : decode cX8_dayAt 18 = .ok (.iload_n 2, 1) := by decide +kernel
theorem dX8_dayAt_19 : decode cX8_dayAt 19 = .ok (.if_icmp .lt 12, 3) := by decide +kernel
theorem dX8_dayAt_22 : decode cX8_dayAt 22 = .ok (.aload_n 0, 1) := by decide +kernel
theorem dX8_dayAt_23 : decode cX8_dayAt 23 = .ok (.getfield 13, 3) := by decide +kernel
theorem dX8_dayAt_26 : decode cX8_dayAt 26 = .ok (.iload_n 3, 1) := by decide +kernel
theorem dX8_dayAt_27 : decode cX8_dayAt 27 = .ok (.iaload, 1) := by decide +kernel
theorem dX8_dayAt_28 : decode cX8_dayAt 28 = .ok (.goto 4, 3) := by decide +kernel
theorem dX8_dayAt_31 : decode cX8_dayAt 31 = .ok (.iconst 0, 1) := by decide +kernel
theorem dX8_dayAt_32 : decode cX8_dayAt 32 = .ok (.iload_n 2, 1) := by decide +kernel
theorem dX8_dayAt_33 : decode cX8_dayAt 33 = .ok (.invokevirtual 124, 3) := by decide +kernel
theorem dX8_dayAt_36 : decode cX8_dayAt 36 = .ok (.iinc 3 (-1), 3) := by decide +kernel
theorem dX8_dayAt_39 : decode cX8_dayAt 39 = .ok (.goto (-32), 3) := by decide +kernel
theorem dX8_dayAt_42 : decode cX8_dayAt 42 = .ok (.return_, 1) := by decide +kernel
theorem dX8_findBest_0 : decode cX8_findBest 0 = .ok (.aload_n 0, 1) := by decide +kernel
theorem dX8_findBest_1 : decode cX8_findBest 1 = .ok (.invokevirtual 128, 3) := by decide +kernel
theorem dX8_findBest_4 : decode cX8_findBest 4 = .ok (.aload_n 0, 1) := by decide +kernel
theorem dX8_findBest_5 : decode cX8_findBest 5 = .ok (.getfield 120, 3) := by decide +kernel
theorem dX8_findBest_8 : decode cX8_findBest 8 = .ok (.lstore_n 1, 1) := by decide +kernel
theorem dX8_findBest_9 : decode cX8_findBest 9 = .ok (.aload_n 0, 1) := by decide +kernel
theorem dX8_findBest_10 : decode cX8_findBest 10 = .ok (.aload_n 0, 1) := by decide +kernel
theorem dX8_findBest_11 : decode cX8_findBest 11 = .ok (.getfield 78, 3) := by decide +kernel
theorem dX8_findBest_14 : decode cX8_findBest 14 = .ok (.invokevirtual 131, 3) := by decide +kernel
theorem dX8_findBest_17 : decode cX8_findBest 17 = .ok (.aload_n 0, 1) := by decide +kernel
theorem dX8_findBest_18 : decode cX8_findBest 18 = .ok (.getfield 78, 3) := by decide +kernel
theorem dX8_findBest_21 : decode cX8_findBest 21 = .ok (.iconst 1, 1) := by decide +kernel
theorem dX8_findBest_22 : decode cX8_findBest 22 = .ok (.isub, 1) := by decide +kernel
theorem dX8_findBest_23 : decode cX8_findBest 23 = .ok (.istore_n 3, 1) := by decide +kernel
theorem dX8_findBest_24 : decode cX8_findBest 24 = .ok (.iload_n 3, 1) := by decide +kernel
theorem dX8_findBest_25 : decode cX8_findBest 25 = .ok (.ifCond .lt 231, 3) := by decide +kernel
theorem dX8_findBest_28 : decode cX8_findBest 28 = .ok (.iconst 0, 1) := by decide +kernel
theorem dX8_findBest_29 : decode cX8_findBest 29 = .ok (.istore 4, 2) := by decide +kernel
theorem dX8_findBest_31 : decode cX8_findBest 31 = .ok (.iload 4, 2) := by decide +kernel
theorem dX8_findBest_33 : decode cX8_findBest 33 = .ok (.bipush 12, 2) := by decide +kernel
theorem dX8_findBest_35 : decode cX8_findBest 35 = .ok (.if_icmp .gt 38, 3) := by decide +kernel
theorem dX8_findBest_38 : decode cX8_findBest 38 = .ok (.aload_n 0, 1) := by decide +kernel
theorem dX8_findBest_39 : decode cX8_findBest 39 = .ok (.getfield 38, 3) := by decide +kernel
theorem dX8_findBest_42 : decode cX8_findBest 42 = .ok (.iload 4, 2) := by decide +kernel
theorem dX8_findBest_44 : decode cX8_findBest 44 = .ok (.aload_n 0, 1) := by decide +kernel
theorem dX8_findBest_45 : decode cX8_findBest 45 = .ok (.getfield 28, 3) := by decide +kernel
theorem dX8_findBest_48 : decode cX8_findBest 48 = .ok (.iload 4, 2) := by decide +kernel
theorem dX8_findBest_50 : decode cX8_findBest 50 = .ok (.laload, 1) := by decide +kernel
theorem dX8_findBest_51 : decode cX8_findBest 51 = .ok (.lastore, 1) := by decide +kernel
theorem dX8_findBest_52 : decode cX8_findBest 52 = .ok (.aload_n 0, 1) := by decide +kernel
theorem dX8_findBest_53 : decode cX8_findBest 53 = .ok (.getfield 32, 3) := by decide +kernel
theorem dX8_findBest_56 : decode cX8_findBest 56 = .ok (.bipush 13, 2) := by decide +kernel
theorem dX8_findBest_58 : decode cX8_findBest 58 = .ok (.iload_n 3, 1) := by decide +kernel
theorem dX8_findBest_59 : decode cX8_findBest 59 = .ok (.imul, 1) := by decide +kernel
theorem dX8_findBest_60 : decode cX8_findBest 60 = .ok (.iload 4, 2) := by decide +kernel
theorem dX8_findBest_62 : decode cX8_findBest 62 = .ok (.iadd, 1) := by decide +kernel
theorem dX8_findBest_63 : decode cX8_findBest 63 = .ok (.ldc2_w 112, 3) := by decide +kernel
theorem dX8_findBest_66 : decode cX8_findBest 66 = .ok (.lastore, 1) := by decide +kernel
theorem dX8_findBest_67 : decode cX8_findBest 67 = .ok (.iinc 4 1, 3) := by decide +kernel
theorem dX8_findBest_70 : decode cX8_findBest 70 = .ok (.goto (-39), 3) := by decide +kernel
theorem dX8_findBest_73 : decode cX8_findBest 73 = .ok (.iconst 0, 1) := by decide +kernel
theorem dX8_findBest_74 : decode cX8_findBest 74 = .ok (.istore 4, 2) := by decide +kernel
theorem dX8_findBest_76 : decode cX8_findBest 76 = .ok (.iload 4, 2) := by decide +kernel
theorem dX8_findBest_78 : decode cX8_findBest 78 = .ok (.aload_n 0, 1) := by decide +kernel
theorem dX8_findBest_79 : decode cX8_findBest 79 = .ok (.getfield 96, 3) := by decide +kernel
theorem dX8_findBest_82 : decode cX8_findBest 82 = .ok (.if_icmp .ge 128, 3) := by decide +kernel
theorem dX8_findBest_85 : decode cX8_findBest 85 = .ok (.aload_n 0, 1) := by decide +kernel
theorem dX8_findBest_86 : decode cX8_findBest 86 = .ok (.lload_n 1, 1) := by decide +kernel
theorem dX8_findBest_87 : decode cX8_findBest 87 = .ok (.putfield 120, 3) := by decide +kernel
theorem dX8_findBest_90 : decode cX8_findBest 90 = .ok (.iconst 0, 1) := by decide +kernel
theorem dX8_findBest_91 : decode cX8_findBest 91 = .ok (.istore 5, 2) := by decide +kernel
theorem dX8_findBest_93 : decode cX8_findBest 93 = .ok (.iload 5, 2) := by decide +kernel
theorem dX8_findBest_95 : decode cX8_findBest 95 = .ok (.bipush 12, 2) := by decide +kernel
theorem dX8_findBest_97 : decode cX8_findBest 97 = .ok (.if_icmp .gt 23, 3) := by decide +kernel
theorem dX8_findBest_100 : decode cX8_findBest 100 = .ok (.aload_n 0, 1) := by decide +kernel
theorem dX8_findBest_101 : decode cX8_findBest 101 = .ok (.getfield 28, 3) := by decide +kernel
theorem dX8_findBest_104 : decode cX8_findBest 104 = .ok (.iload 5, 2) := by decide +kernel
theorem dX8_findBest_106 : decode cX8_findBest 106 = .ok (.aload_n 0, 1) := by decide +kernel
theorem dX8_findBest_107 : decode cX8_findBest 107 = .ok (.getfield 38, 3) := by decide +kernel
theorem dX8_findBest_110 : decode cX8_findBest 110 = .ok (.iload 5, 2) := by decide +kernel
theorem dX8_findBest_112 : decode cX8_findBest 112 = .ok (.laload, 1) := by decide +kernel
theorem dX8_findBest_113 : decode cX8_findBest 113 = .ok (.lastore, 1) := by decide +kernel
theorem dX8_findBest_114 : decode cX8_findBest 114 = .ok (.iinc 5 1, 3) := by decide +kernel
theorem dX8_findBest_117 : decode cX8_findBest 117 = .ok (.goto (-24), 3) := by decide +kernel
theorem dX8_findBest_120 : decode cX8_findBest 120 = .ok (.aload_n 0, 1) := by decide +kernel
theorem dX8_findBest_121 : decode cX8_findBest 121 = .ok (.iload_n 3, 1) := by decide +kernel
theorem dX8_findBest_122 : decode cX8_findBest 122 = .ok (.aload_n 0, 1) := by decide +kernel
theorem dX8_findBest_123 : decode cX8_findBest 123 = .ok (.getfield 7, 3) := by decide +kernel
theorem dX8_findBest_126 : decode cX8_findBest 126 = .ok (.iload 4, 2) := by decide +kernel
theorem dX8_findBest_128 : decode cX8_findBest 128 = .ok (.iaload, 1) := by decide +kernel
theorem dX8_findBest_129 : decode cX8_findBest 129 = .ok (.invokevirtual 135, 3) := by decide +kernel
theorem dX8_findBest_132 : decode cX8_findBest 132 = .ok (.iconst 0, 1) := by decide +kernel
theorem dX8_findBest_133 : decode cX8_findBest 133 = .ok (.istore 5, 2) := by decide +kernel
theorem dX8_findBest_135 : decode cX8_findBest 135 = .ok (.iload 5, 2) := by decide +kernel
theorem dX8_findBest_137 : decode cX8_findBest 137 = .ok (.bipush 12, 2) := by decide +kernel
theorem dX8_findBest_139 : decode cX8_findBest 139 = .ok (.if_icmp .gt 65, 3) := by decide +kernel
theorem dX8_findBest_142 : decode cX8_findBest 142 = .ok (.aload_n 0, 1) := by decide +kernel
theorem dX8_findBest_143 : decode cX8_findBest 143 = .ok (.getfield 28, 3) := by decide +kernel
theorem dX8_findBest_146 : decode cX8_findBest 146 = .ok (.iload 5, 2) := by decide +kernel
theorem dX8_findBest_148 : decode cX8_findBest 148 = .ok (.laload, 1) := by decide +kernel
theorem dX8_findBest_149 : decode cX8_findBest 149 = .ok (.aload_n 0, 1) := by decide +kernel
theorem dX8_findBest_150 : decode cX8_findBest 150 = .ok (.getfield 32, 3) := by decide +kernel
theorem dX8_findBest_153 : decode cX8_findBest 153 = .ok (.bipush 13, 2) := by decide +kernel
theorem dX8_findBest_155 : decode cX8_findBest 155 = .ok (.iload_n 3, 1) := by decide +kernel
theorem dX8_findBest_156 : decode cX8_findBest 156 = .ok (.imul, 1) := by decide +kernel
theorem dX8_findBest_157 : decode cX8_findBest 157 = .ok (.iload 5, 2) := by decide +kernel
theorem dX8_findBest_159 : decode cX8_findBest 159 = .ok (.iadd, 1) := by decide +kernel
theorem dX8_findBest_160 : decode cX8_findBest 160 = .ok (.laload, 1) := by decide +kernel
theorem dX8_findBest_161 : decode cX8_findBest 161 = .ok (.lcmp, 1) := by decide +kernel
theorem dX8_findBest_162 : decode cX8_findBest 162 = .ok (.ifCond .le 36, 3) := by decide +kernel
theorem dX8_findBest_165 : decode cX8_findBest 165 = .ok (.aload_n 0, 1) := by decide +kernel
theorem dX8_findBest_166 : decode cX8_findBest 166 = .ok (.getfield 32, 3) := by decide +kernel
theorem dX8_findBest_169 : decode cX8_findBest 169 = .ok (.bipush 13, 2) := by decide +kernel
theorem dX8_findBest_171 : decode cX8_findBest 171 = .ok (.iload_n 3, 1) := by decide +kernel
theorem dX8_findBest_172 : decode cX8_findBest 172 = .ok (.imul, 1) := by decide +kernel
theorem dX8_findBest_173 : decode cX8_findBest 173 = .ok (.iload 5, 2) := by decide +kernel
theorem dX8_findBest_175 : decode cX8_findBest 175 = .ok (.iadd, 1) := by decide +kernel
theorem dX8_findBest_176 : decode cX8_findBest 176 = .ok (.aload_n 0, 1) := by decide +kernel
theorem dX8_findBest_177 : decode cX8_findBest 177 = .ok (.getfield 28, 3) := by decide +kernel
theorem dX8_findBest_180 : decode cX8_findBest 180 = .ok (.iload 5, 2) := by decide +kernel
theorem dX8_findBest_182 : decode cX8_findBest 182 = .ok (.laload, 1) := by decide +kernel
theorem dX8_findBest_183 : decode cX8_findBest 183 = .ok (.lastore, 1) := by decide +kernel
theorem dX8_findBest_184 : decode cX8_findBest 184 = .ok (.aload_n 0, 1) := by decide +kernel
theorem dX8_findBest_185 : decode cX8_findBest 185 = .ok (.getfield 35, 3) := by decide +kernel
theorem dX8_findBest_188 : decode cX8_findBest 188 = .ok (.bipush 13, 2) := by decide +kernel
theorem dX8_findBest_190 : decode cX8_findBest 190 = .ok (.iload_n 3, 1) := by decide +kernel
theorem dX8_findBest_191 : decode cX8_findBest 191 = .ok (.imul, 1) := by decide +kernel
theorem dX8_findBest_192 : decode cX8_findBest 192 = .ok (.iload 5, 2) := by decide +kernel
theorem dX8_findBest_194 : decode cX8_findBest 194 = .ok (.iadd, 1) := by decide +kernel
theorem dX8_findBest_195 : decode cX8_findBest 195 = .ok (.iload 4, 2) := by decide +kernel
theorem dX8_findBest_197 : decode cX8_findBest 197 = .ok (.iastore, 1) := by decide +kernel
theorem dX8_findBest_198 : decode cX8_findBest 198 = .ok (.iinc 5 1, 3) := by decide +kernel
theorem dX8_findBest_201 : decode cX8_findBest 201 = .ok (.goto (-66), 3) := by decide +kernel
theorem dX8_findBest_204 : decode cX8_findBest 204 = .ok (.iinc 4 1, 3) := by decide +kernel
theorem dX8_findBest_207 : decode cX8_findBest 207 = .ok (.goto (-131), 3) := by decide +kernel
theorem dX8_findBest_210 : decode cX8_findBest 210 = .ok (.iconst 0, 1) := by decide +kernel
theorem dX8_findBest_211 : decode cX8_findBest 211 = .ok (.istore 4, 2) := by decide +kernel
theorem dX8_findBest_213 : decode cX8_findBest 213 = .ok (.iload 4, 2) := by decide +kernel
theorem dX8_findBest_215 : decode cX8_findBest 215 = .ok (.bipush 12, 2) := by decide +kernel
theorem dX8_findBest_217 : decode cX8_findBest 217 = .ok (.if_icmp .gt 28, 3) := by decide +kernel
theorem dX8_findBest_220 : decode cX8_findBest 220 = .ok (.aload_n 0, 1) := by decide +kernel
theorem dX8_findBest_221 : decode cX8_findBest 221 = .ok (.getfield 28, 3) := by decide +kernel
theorem dX8_findBest_224 : decode cX8_findBest 224 = .ok (.iload 4, 2) := by decide +kernel
theorem dX8_findBest_226 : decode cX8_findBest 226 = .ok (.aload_n 0, 1) := by decide +kernel
theorem dX8_findBest_227 : decode cX8_findBest 227 = .ok (.getfield 32, 3) := by decide +kernel
theorem dX8_findBest_230 : decode cX8_findBest 230 = .ok (.bipush 13, 2) := by decide +kernel
theorem dX8_findBest_232 : decode cX8_findBest 232 = .ok (.iload_n 3, 1) := by decide +kernel
theorem dX8_findBest_233 : decode cX8_findBest 233 = .ok (.imul, 1) := by decide +kernel
theorem dX8_findBest_234 : decode cX8_findBest 234 = .ok (.iload 4, 2) := by decide +kernel
theorem dX8_findBest_236 : decode cX8_findBest 236 = .ok (.iadd, 1) := by decide +kernel
theorem dX8_findBest_237 : decode cX8_findBest 237 = .ok (.laload, 1) := by decide +kernel
theorem dX8_findBest_238 : decode cX8_findBest 238 = .ok (.lastore, 1) := by decide +kernel
theorem dX8_findBest_239 : decode cX8_findBest 239 = .ok (.iinc 4 1, 3) := by decide +kernel
theorem dX8_findBest_242 : decode cX8_findBest 242 = .ok (.goto (-29), 3) := by decide +kernel
theorem dX8_findBest_245 : decode cX8_findBest 245 = .ok (.aload_n 0, 1) := by decide +kernel
theorem dX8_findBest_246 : decode cX8_findBest 246 = .ok (.getfield 120, 3) := by decide +kernel
theorem dX8_findBest_249 : decode cX8_findBest 249 = .ok (.lstore_n 1, 1) := by decide +kernel
theorem dX8_findBest_250 : decode cX8_findBest 250 = .ok (.iinc 3 (-1), 3) := by decide +kernel
theorem dX8_findBest_253 : decode cX8_findBest 253 = .ok (.goto (-229), 3) := by decide +kernel
theorem dX8_findBest_256 : decode cX8_findBest 256 = .ok (.return_, 1) := by decide +kernel
theorem dX8_keepRow_0 : decode cX8_keepRow 0 = .ok (.iconst 0, 1) := by decide +kernel
theorem dX8_keepRow_1 : decode cX8_keepRow 1 = .ok (.istore_n 2, 1) := by decide +kernel
theorem dX8_keepRow_2 : decode cX8_keepRow 2 = .ok (.iload_n 2, 1) := by decide +kernel
theorem dX8_keepRow_3 : decode cX8_keepRow 3 = .ok (.bipush 12, 2) := by decide +kernel
theorem dX8_keepRow_5 : decode cX8_keepRow 5 = .ok (.if_icmp .gt 26, 3) := by decide +kernel
theorem dX8_keepRow_8 : decode cX8_keepRow 8 = .ok (.aload_n 0, 1) := by decide +kernel
theorem dX8_keepRow_9 : decode cX8_keepRow 9 = .ok (.getfield 32, 3) := by decide +kernel
theorem dX8_keepRow_12 : decode cX8_keepRow 12 = .ok (.bipush 13, 2) := by decide +kernel
theorem dX8_keepRow_14 : decode cX8_keepRow 14 = .ok (.iload_n 1, 1) := by decide +kernel
theorem dX8_keepRow_15 : decode cX8_keepRow 15 = .ok (.imul, 1) := by decide +kernel
theorem dX8_keepRow_16 : decode cX8_keepRow 16 = .ok (.iload_n 2, 1) := by decide +kernel
theorem dX8_keepRow_17 : decode cX8_keepRow 17 = .ok (.iadd, 1) := by decide +kernel
theorem dX8_keepRow_18 : decode cX8_keepRow 18 = .ok (.aload_n 0, 1) := by decide +kernel
theorem dX8_keepRow_19 : decode cX8_keepRow 19 = .ok (.getfield 28, 3) := by decide +kernel
theorem dX8_keepRow_22 : decode cX8_keepRow 22 = .ok (.iload_n 2, 1) := by decide +kernel
theorem dX8_keepRow_23 : decode cX8_keepRow 23 = .ok (.laload, 1) := by decide +kernel
theorem dX8_keepRow_24 : decode cX8_keepRow 24 = .ok (.lastore, 1) := by decide +kernel
theorem dX8_keepRow_25 : decode cX8_keepRow 25 = .ok (.iinc 2 1, 3) := by decide +kernel
theorem dX8_keepRow_28 : decode cX8_keepRow 28 = .ok (.goto (-26), 3) := by decide +kernel
theorem dX8_keepRow_31 : decode cX8_keepRow 31 = .ok (.return_, 1) := by decide +kernel
theorem dX8_layPlan_0 : decode cX8_layPlan 0 = .ok (.iconst 0, 1) := by decide +kernel
theorem dX8_layPlan_1 : decode cX8_layPlan 1 = .ok (.istore_n 1, 1) := by decide +kernel
theorem dX8_layPlan_2 : decode cX8_layPlan 2 = .ok (.iload_n 1, 1) := by decide +kernel
theorem dX8_layPlan_3 : decode cX8_layPlan 3 = .ok (.bipush 6, 2) := by decide +kernel
theorem dX8_layPlan_5 : decode cX8_layPlan 5 = .ok (.if_icmp .ge 21, 3) := by decide +kernel
theorem dX8_layPlan_8 : decode cX8_layPlan 8 = .ok (.aload_n 0, 1) := by decide +kernel
theorem dX8_layPlan_9 : decode cX8_layPlan 9 = .ok (.getfield 41, 3) := by decide +kernel
theorem dX8_layPlan_12 : decode cX8_layPlan 12 = .ok (.iload_n 1, 1) := by decide +kernel
theorem dX8_layPlan_13 : decode cX8_layPlan 13 = .ok (.aload_n 0, 1) := by decide +kernel
theorem dX8_layPlan_14 : decode cX8_layPlan 14 = .ok (.getfield 25, 3) := by decide +kernel
theorem dX8_layPlan_17 : decode cX8_layPlan 17 = .ok (.iload_n 1, 1) := by decide +kernel
theorem dX8_layPlan_18 : decode cX8_layPlan 18 = .ok (.iaload, 1) := by decide +kernel
theorem dX8_layPlan_19 : decode cX8_layPlan 19 = .ok (.iastore, 1) := by decide +kernel
theorem dX8_layPlan_20 : decode cX8_layPlan 20 = .ok (.iinc 1 1, 3) := by decide +kernel
theorem dX8_layPlan_23 : decode cX8_layPlan 23 = .ok (.goto (-21), 3) := by decide +kernel
theorem dX8_layPlan_26 : decode cX8_layPlan 26 = .ok (.return_, 1) := by decide +kernel
theorem dX8_bringFrom_0 : decode cX8_bringFrom 0 = .ok (.aload_n 0, 1) := by decide +kernel
theorem dX8_bringFrom_1 : decode cX8_bringFrom 1 = .ok (.invokevirtual 128, 3) := by decide +kernel
theorem dX8_bringFrom_4 : decode cX8_bringFrom 4 = .ok (.aload_n 0, 1) := by decide +kernel
theorem dX8_bringFrom_5 : decode cX8_bringFrom 5 = .ok (.getfield 78, 3) := by decide +kernel
theorem dX8_bringFrom_8 : decode cX8_bringFrom 8 = .ok (.iconst 1, 1) := by decide +kernel
theorem dX8_bringFrom_9 : decode cX8_bringFrom 9 = .ok (.isub, 1) := by decide +kernel
theorem dX8_bringFrom_10 : decode cX8_bringFrom 10 = .ok (.istore_n 2, 1) := by decide +kernel
theorem dX8_bringFrom_11 : decode cX8_bringFrom 11 = .ok (.iload_n 2, 1) := by decide +kernel
theorem dX8_bringFrom_12 : decode cX8_bringFrom 12 = .ok (.iload_n 1, 1) := by decide +kernel
theorem dX8_bringFrom_13 : decode cX8_bringFrom 13 = .ok (.if_icmp .lt 25, 3) := by decide +kernel
theorem dX8_bringFrom_16 : decode cX8_bringFrom 16 = .ok (.aload_n 0, 1) := by decide +kernel
theorem dX8_bringFrom_17 : decode cX8_bringFrom 17 = .ok (.iload_n 2, 1) := by decide +kernel
theorem dX8_bringFrom_18 : decode cX8_bringFrom 18 = .ok (.aload_n 0, 1) := by decide +kernel
theorem dX8_bringFrom_19 : decode cX8_bringFrom 19 = .ok (.getfield 7, 3) := by decide +kernel
theorem dX8_bringFrom_22 : decode cX8_bringFrom 22 = .ok (.aload_n 0, 1) := by decide +kernel
theorem dX8_bringFrom_23 : decode cX8_bringFrom 23 = .ok (.getfield 41, 3) := by decide +kernel
theorem dX8_bringFrom_26 : decode cX8_bringFrom 26 = .ok (.iload_n 2, 1) := by decide +kernel
theorem dX8_bringFrom_27 : decode cX8_bringFrom 27 = .ok (.iaload, 1) := by decide +kernel
theorem dX8_bringFrom_28 : decode cX8_bringFrom 28 = .ok (.iaload, 1) := by decide +kernel
theorem dX8_bringFrom_29 : decode cX8_bringFrom 29 = .ok (.invokevirtual 135, 3) := by decide +kernel
theorem dX8_bringFrom_32 : decode cX8_bringFrom 32 = .ok (.iinc 2 (-1), 3) := by decide +kernel
theorem dX8_bringFrom_35 : decode cX8_bringFrom 35 = .ok (.goto (-24), 3) := by decide +kernel
theorem dX8_bringFrom_38 : decode cX8_bringFrom 38 = .ok (.return_, 1) := by decide +kernel
theorem dX8_plan_0 : decode cX8_plan 0 = .ok (.iload_n 2, 1) := by decide +kernel
theorem dX8_plan_1 : decode cX8_plan 1 = .ok (.i2l, 1) := by decide +kernel
theorem dX8_plan_2 : decode cX8_plan 2 = .ok (.lconst 0, 1) := by decide +kernel
theorem dX8_plan_3 : decode cX8_plan 3 = .ok (.aload_n 0, 1) := by decide +kernel
theorem dX8_plan_4 : decode cX8_plan 4 = .ok (.getfield 96, 3) := by decide +kernel
theorem dX8_plan_7 : decode cX8_plan 7 = .ok (.iconst 1, 1) := by decide +kernel
theorem dX8_plan_8 : decode cX8_plan 8 = .ok (.isub, 1) := by decide +kernel
theorem dX8_plan_9 : decode cX8_plan 9 = .ok (.i2l, 1) := by decide +kernel
theorem dX8_plan_10 : decode cX8_plan 10 = .ok (.invokestatic 83, 3) := by decide +kernel
theorem dX8_plan_13 : decode cX8_plan 13 = .ok (.ifCond .ne 5, 3) := by decide +kernel
theorem dX8_plan_16 : decode cX8_plan 16 = .ok (.iconst (-1), 1) := by decide +kernel
theorem dX8_plan_17 : decode cX8_plan 17 = .ok (.ireturn, 1) := by decide +kernel
theorem dX8_plan_18 : decode cX8_plan 18 = .ok (.iload_n 1, 1) := by decide +kernel
theorem dX8_plan_19 : decode cX8_plan 19 = .ok (.i2l, 1) := by decide +kernel
theorem dX8_plan_20 : decode cX8_plan 20 = .ok (.lconst 0, 1) := by decide +kernel
theorem dX8_plan_21 : decode cX8_plan 21 = .ok (.ldc2_w 114, 3) := by decide +kernel
theorem dX8_plan_24 : decode cX8_plan 24 = .ok (.invokestatic 83, 3) := by decide +kernel
theorem dX8_plan_27 : decode cX8_plan 27 = .ok (.ifCond .ne 6, 3) := by decide +kernel
theorem dX8_plan_30 : decode cX8_plan 30 = .ok (.bipush (-2), 2) := by decide +kernel
theorem dX8_plan_32 : decode cX8_plan 32 = .ok (.ireturn, 1) := by decide +kernel
theorem dX8_plan_33 : decode cX8_plan 33 = .ok (.aload_n 0, 1) := by decide +kernel
theorem dX8_plan_34 : decode cX8_plan 34 = .ok (.getfield 25, 3) := by decide +kernel
theorem dX8_plan_37 : decode cX8_plan 37 = .ok (.iload_n 1, 1) := by decide +kernel
theorem dX8_plan_38 : decode cX8_plan 38 = .ok (.iaload, 1) := by decide +kernel
theorem dX8_plan_39 : decode cX8_plan 39 = .ok (.istore_n 3, 1) := by decide +kernel
theorem dX8_plan_40 : decode cX8_plan 40 = .ok (.aload_n 0, 1) := by decide +kernel
theorem dX8_plan_41 : decode cX8_plan 41 = .ok (.getfield 25, 3) := by decide +kernel
theorem dX8_plan_44 : decode cX8_plan 44 = .ok (.iload_n 1, 1) := by decide +kernel
theorem dX8_plan_45 : decode cX8_plan 45 = .ok (.iload_n 2, 1) := by decide +kernel
theorem dX8_plan_46 : decode cX8_plan 46 = .ok (.iastore, 1) := by decide +kernel
theorem dX8_plan_47 : decode cX8_plan 47 = .ok (.iload_n 3, 1) := by decide +kernel
theorem dX8_plan_48 : decode cX8_plan 48 = .ok (.ireturn, 1) := by decide +kernel
theorem dX8_brings_0 : decode cX8_brings 0 = .ok (.iload_n 1, 1) := by decide +kernel
theorem dX8_brings_1 : decode cX8_brings 1 = .ok (.invokestatic 138, 3) := by decide +kernel
theorem dX8_brings_4 : decode cX8_brings 4 = .ok (.ifCond .ne 7, 3) := by decide +kernel
theorem dX8_brings_7 : decode cX8_brings 7 = .ok (.ldc2_w 141, 3) := by decide +kernel
theorem dX8_brings_10 : decode cX8_brings 10 = .ok (.lreturn, 1) := by decide +kernel
theorem dX8_brings_11 : decode cX8_brings 11 = .ok (.aload_n 0, 1) := by decide +kernel
theorem dX8_brings_12 : decode cX8_brings 12 = .ok (.getfield 96, 3) := by decide +kernel
theorem dX8_brings_15 : decode cX8_brings 15 = .ok (.ifCond .ne 7, 3) := by decide +kernel
theorem dX8_brings_18 : decode cX8_brings 18 = .ok (.ldc2_w 143, 3) := by decide +kernel
theorem dX8_brings_21 : decode cX8_brings 21 = .ok (.lreturn, 1) := by decide +kernel
theorem dX8_brings_22 : decode cX8_brings 22 = .ok (.aload_n 0, 1) := by decide +kernel
theorem dX8_brings_23 : decode cX8_brings 23 = .ok (.invokevirtual 145, 3) := by decide +kernel
theorem dX8_brings_26 : decode cX8_brings 26 = .ok (.aload_n 0, 1) := by decide +kernel
theorem dX8_brings_27 : decode cX8_brings 27 = .ok (.iconst 0, 1) := by decide +kernel
theorem dX8_brings_28 : decode cX8_brings 28 = .ok (.invokevirtual 148, 3) := by decide +kernel
theorem dX8_brings_31 : decode cX8_brings 31 = .ok (.aload_n 0, 1) := by decide +kernel
theorem dX8_brings_32 : decode cX8_brings 32 = .ok (.getfield 28, 3) := by decide +kernel
theorem dX8_brings_35 : decode cX8_brings 35 = .ok (.aload_n 0, 1) := by decide +kernel
theorem dX8_brings_36 : decode cX8_brings 36 = .ok (.getfield 75, 3) := by decide +kernel
theorem dX8_brings_39 : decode cX8_brings 39 = .ok (.laload, 1) := by decide +kernel
theorem dX8_brings_40 : decode cX8_brings 40 = .ok (.aload_n 0, 1) := by decide +kernel
theorem dX8_brings_41 : decode cX8_brings 41 = .ok (.getfield 120, 3) := by decide +kernel
theorem dX8_brings_44 : decode cX8_brings 44 = .ok (.iload_n 1, 1) := by decide +kernel
theorem dX8_brings_45 : decode cX8_brings 45 = .ok (.invokestatic 151, 3) := by decide +kernel
theorem dX8_brings_48 : decode cX8_brings 48 = .ok (.lreturn, 1) := by decide +kernel
theorem dX8_findOdds_0 : decode cX8_findOdds 0 = .ok (.aload_n 0, 1) := by decide +kernel
theorem dX8_findOdds_1 : decode cX8_findOdds 1 = .ok (.lconst 1, 1) := by decide +kernel
theorem dX8_findOdds_2 : decode cX8_findOdds 2 = .ok (.putfield 120, 3) := by decide +kernel
theorem dX8_findOdds_5 : decode cX8_findOdds 5 = .ok (.iconst 0, 1) := by decide +kernel
theorem dX8_findOdds_6 : decode cX8_findOdds 6 = .ok (.istore_n 2, 1) := by decide +kernel
theorem dX8_findOdds_7 : decode cX8_findOdds 7 = .ok (.iload_n 2, 1) := by decide +kernel
theorem dX8_findOdds_8 : decode cX8_findOdds 8 = .ok (.bipush 12, 2) := by decide +kernel
theorem dX8_findOdds_10 : decode cX8_findOdds 10 = .ok (.if_icmp .gt 28, 3) := by decide +kernel
theorem dX8_findOdds_13 : decode cX8_findOdds 13 = .ok (.aload_n 0, 1) := by decide +kernel
theorem dX8_findOdds_14 : decode cX8_findOdds 14 = .ok (.getfield 44, 3) := by decide +kernel
theorem dX8_findOdds_17 : decode cX8_findOdds 17 = .ok (.iload_n 2, 1) := by decide +kernel
theorem dX8_findOdds_18 : decode cX8_findOdds 18 = .ok (.iload_n 2, 1) := by decide +kernel
theorem dX8_findOdds_19 : decode cX8_findOdds 19 = .ok (.aload_n 0, 1) := by decide +kernel
theorem dX8_findOdds_20 : decode cX8_findOdds 20 = .ok (.getfield 75, 3) := by decide +kernel
theorem dX8_findOdds_23 : decode cX8_findOdds 23 = .ok (.if_icmp .ne 7, 3) := by decide +kernel
theorem dX8_findOdds_26 : decode cX8_findOdds 26 = .ok (.lconst 1, 1) := by decide +kernel
theorem dX8_findOdds_27 : decode cX8_findOdds 27 = .ok (.goto 4, 3) := by decide +kernel
theorem dX8_findOdds_30 : decode cX8_findOdds 30 = .ok (.lconst 0, 1) := by decide +kernel
theorem dX8_findOdds_31 : decode cX8_findOdds 31 = .ok (.lastore, 1) := by decide +kernel
theorem dX8_findOdds_32 : decode cX8_findOdds 32 = .ok (.iinc 2 1, 3) := by decide +kernel
theorem dX8_findOdds_35 : decode cX8_findOdds 35 = .ok (.goto (-28), 3) := by decide +kernel
theorem dX8_findOdds_38 : decode cX8_findOdds 38 = .ok (.iconst 0, 1) := by decide +kernel
theorem dX8_findOdds_39 : decode cX8_findOdds 39 = .ok (.istore_n 2, 1) := by decide +kernel
theorem dX8_findOdds_40 : decode cX8_findOdds 40 = .ok (.iload_n 2, 1) := by decide +kernel
theorem dX8_findOdds_41 : decode cX8_findOdds 41 = .ok (.iload_n 1, 1) := by decide +kernel
theorem dX8_findOdds_42 : decode cX8_findOdds 42 = .ok (.if_icmp .ge 143, 3) := by decide +kernel
theorem dX8_findOdds_45 : decode cX8_findOdds 45 = .ok (.iconst 0, 1) := by decide +kernel
theorem dX8_findOdds_46 : decode cX8_findOdds 46 = .ok (.istore_n 3, 1) := by decide +kernel
theorem dX8_findOdds_47 : decode cX8_findOdds 47 = .ok (.iload_n 3, 1) := by decide +kernel
theorem dX8_findOdds_48 : decode cX8_findOdds 48 = .ok (.aload_n 0, 1) := by decide +kernel
theorem dX8_findOdds_49 : decode cX8_findOdds 49 = .ok (.getfield 103, 3) := by decide +kernel
theorem dX8_findOdds_52 : decode cX8_findOdds 52 = .ok (.if_icmp .ge 127, 3) := by decide +kernel
theorem dX8_findOdds_55 : decode cX8_findOdds 55 = .ok (.aload_n 0, 1) := by decide +kernel
theorem dX8_findOdds_56 : decode cX8_findOdds 56 = .ok (.iload_n 3, 1) := by decide +kernel
theorem dX8_findOdds_57 : decode cX8_findOdds 57 = .ok (.iload_n 2, 1) := by decide +kernel
theorem dX8_findOdds_58 : decode cX8_findOdds 58 = .ok (.invokevirtual 116, 3) := by decide +kernel
theorem dX8_findOdds_61 : decode cX8_findOdds 61 = .ok (.aload_n 0, 1) := by decide +kernel
theorem dX8_findOdds_62 : decode cX8_findOdds 62 = .ok (.getfield 7, 3) := by decide +kernel
theorem dX8_findOdds_65 : decode cX8_findOdds 65 = .ok (.aload_n 0, 1) := by decide +kernel
theorem dX8_findOdds_66 : decode cX8_findOdds 66 = .ok (.getfield 41, 3) := by decide +kernel
theorem dX8_findOdds_69 : decode cX8_findOdds 69 = .ok (.iload_n 2, 1) := by decide +kernel
theorem dX8_findOdds_70 : decode cX8_findOdds 70 = .ok (.iaload, 1) := by decide +kernel
theorem dX8_findOdds_71 : decode cX8_findOdds 71 = .ok (.iaload, 1) := by decide +kernel
theorem dX8_findOdds_72 : decode cX8_findOdds 72 = .ok (.if_icmp .lt 12, 3) := by decide +kernel
theorem dX8_findOdds_75 : decode cX8_findOdds 75 = .ok (.aload_n 0, 1) := by decide +kernel
theorem dX8_findOdds_76 : decode cX8_findOdds 76 = .ok (.getfield 13, 3) := by decide +kernel
theorem dX8_findOdds_79 : decode cX8_findOdds 79 = .ok (.iload_n 3, 1) := by decide +kernel
theorem dX8_findOdds_80 : decode cX8_findOdds 80 = .ok (.iaload, 1) := by decide +kernel
theorem dX8_findOdds_81 : decode cX8_findOdds 81 = .ok (.goto 4, 3) := by decide +kernel
theorem dX8_findOdds_84 : decode cX8_findOdds 84 = .ok (.iconst 0, 1) := by decide +kernel
theorem dX8_findOdds_85 : decode cX8_findOdds 85 = .ok (.istore 4, 2) := by decide +kernel
theorem dX8_findOdds_87 : decode cX8_findOdds 87 = .ok (.iconst 0, 1) := by decide +kernel
theorem dX8_findOdds_88 : decode cX8_findOdds 88 = .ok (.istore 5, 2) := by decide +kernel
theorem dX8_findOdds_90 : decode cX8_findOdds 90 = .ok (.iload 5, 2) := by decide +kernel
theorem dX8_findOdds_92 : decode cX8_findOdds 92 = .ok (.bipush 12, 2) := by decide +kernel
theorem dX8_findOdds_94 : decode cX8_findOdds 94 = .ok (.if_icmp .gt 67, 3) := by decide +kernel
theorem dX8_findOdds_97 : decode cX8_findOdds 97 = .ok (.iload 5, 2) := by decide +kernel
theorem dX8_findOdds_99 : decode cX8_findOdds 99 = .ok (.bipush 12, 2) := by decide +kernel
theorem dX8_findOdds_101 : decode cX8_findOdds 101 = .ok (.if_icmp .ge 19, 3) := by decide +kernel
theorem dX8_findOdds_104 : decode cX8_findOdds 104 = .ok (.iload 4, 2) := by decide +kernel
theorem dX8_findOdds_106 : decode cX8_findOdds 106 = .ok (.i2l, 1) := by decide +kernel
theorem dX8_findOdds_107 : decode cX8_findOdds 107 = .ok (.aload_n 0, 1) := by decide +kernel
theorem dX8_findOdds_108 : decode cX8_findOdds 108 = .ok (.getfield 44, 3) := by decide +kernel
theorem dX8_findOdds_111 : decode cX8_findOdds 111 = .ok (.iload 5, 2) := by decide +kernel
theorem dX8_findOdds_113 : decode cX8_findOdds 113 = .ok (.iconst 1, 1) := by decide +kernel
theorem dX8_findOdds_114 : decode cX8_findOdds 114 = .ok (.iadd, 1) := by decide +kernel
theorem dX8_findOdds_115 : decode cX8_findOdds 115 = .ok (.laload, 1) := by decide +kernel
theorem dX8_findOdds_116 : decode cX8_findOdds 116 = .ok (.lmul, 1) := by decide +kernel
theorem dX8_findOdds_117 : decode cX8_findOdds 117 = .ok (.goto 4, 3) := by decide +kernel
theorem dX8_findOdds_120 : decode cX8_findOdds 120 = .ok (.lconst 0, 1) := by decide +kernel
theorem dX8_findOdds_121 : decode cX8_findOdds 121 = .ok (.lstore 6, 2) := by decide +kernel
theorem dX8_findOdds_123 : decode cX8_findOdds 123 = .ok (.aload_n 0, 1) := by decide +kernel
theorem dX8_findOdds_124 : decode cX8_findOdds 124 = .ok (.getfield 44, 3) := by decide +kernel
theorem dX8_findOdds_127 : decode cX8_findOdds 127 = .ok (.iload 5, 2) := by decide +kernel
theorem dX8_findOdds_129 : decode cX8_findOdds 129 = .ok (.iload 5, 2) := by decide +kernel
theorem dX8_findOdds_131 : decode cX8_findOdds 131 = .ok (.ifCond .ne 7, 3) := by decide +kernel
theorem dX8_findOdds_134 : decode cX8_findOdds 134 = .ok (.iconst 4, 1) := by decide +kernel
theorem dX8_findOdds_135 : decode cX8_findOdds 135 = .ok (.goto 7, 3) := by decide +kernel
theorem dX8_findOdds_138 : decode cX8_findOdds 138 = .ok (.iconst 4, 1) := by decide +kernel
theorem dX8_findOdds_139 : decode cX8_findOdds 139 = .ok (.iload 4, 2) := by decide +kernel
theorem dX8_findOdds_141 : decode cX8_findOdds 141 = .ok (.isub, 1) := by decide +kernel
theorem dX8_findOdds_142 : decode cX8_findOdds 142 = .ok (.i2l, 1) := by decide +kernel
theorem dX8_findOdds_143 : decode cX8_findOdds 143 = .ok (.aload_n 0, 1) := by decide +kernel
theorem dX8_findOdds_144 : decode cX8_findOdds 144 = .ok (.getfield 44, 3) := by decide +kernel
theorem dX8_findOdds_147 : decode cX8_findOdds 147 = .ok (.iload 5, 2) := by decide +kernel
theorem dX8_findOdds_149 : decode cX8_findOdds 149 = .ok (.laload, 1) := by decide +kernel
theorem dX8_findOdds_150 : decode cX8_findOdds 150 = .ok (.lmul, 1) := by decide +kernel
theorem dX8_findOdds_151 : decode cX8_findOdds 151 = .ok (.lload 6, 2) := by decide +kernel
theorem dX8_findOdds_153 : decode cX8_findOdds 153 = .ok (.ladd, 1) := by decide +kernel
theorem dX8_findOdds_154 : decode cX8_findOdds 154 = .ok (.lastore, 1) := by decide +kernel
theorem dX8_findOdds_155 : decode cX8_findOdds 155 = .ok (.iinc 5 1, 3) := by decide +kernel
theorem dX8_findOdds_158 : decode cX8_findOdds 158 = .ok (.goto (-68), 3) := by decide +kernel
theorem dX8_findOdds_161 : decode cX8_findOdds 161 = .ok (.aload_n 0, 1) := by decide +kernel
theorem dX8_findOdds_162 : decode cX8_findOdds 162 = .ok (.dup, 1) := by decide +kernel
theorem dX8_findOdds_163 : decode cX8_findOdds 163 = .ok (.getfield 120, 3) := by decide +kernel
theorem dX8_findOdds_166 : decode cX8_findOdds 166 = .ok (.ldc2_w 99, 3) := by decide +kernel
theorem dX8_findOdds_169 : decode cX8_findOdds 169 = .ok (.lmul, 1) := by decide +kernel
theorem dX8_findOdds_170 : decode cX8_findOdds 170 = .ok (.putfield 120, 3) := by decide +kernel
theorem dX8_findOdds_173 : decode cX8_findOdds 173 = .ok (.iinc 3 1, 3) := by decide +kernel
theorem dX8_findOdds_176 : decode cX8_findOdds 176 = .ok (.goto (-129), 3) := by decide +kernel
theorem dX8_findOdds_179 : decode cX8_findOdds 179 = .ok (.iinc 2 1, 3) := by decide +kernel
theorem dX8_findOdds_182 : decode cX8_findOdds 182 = .ok (.goto (-142), 3) := by decide +kernel
theorem dX8_findOdds_185 : decode cX8_findOdds 185 = .ok (.return_, 1) := by decide +kernel
theorem dX8_left_0 : decode cX8_left 0 = .ok (.iload_n 1, 1) := by decide +kernel
theorem dX8_left_1 : decode cX8_left 1 = .ok (.i2l, 1) := by decide +kernel
theorem dX8_left_2 : decode cX8_left 2 = .ok (.lconst 0, 1) := by decide +kernel
theorem dX8_left_3 : decode cX8_left 3 = .ok (.aload_n 0, 1) := by decide +kernel
theorem dX8_left_4 : decode cX8_left 4 = .ok (.getfield 75, 3) := by decide +kernel
theorem dX8_left_7 : decode cX8_left 7 = .ok (.i2l, 1) := by decide +kernel
theorem dX8_left_8 : decode cX8_left 8 = .ok (.invokestatic 83, 3) := by decide +kernel
theorem dX8_left_11 : decode cX8_left 11 = .ok (.ifCond .eq 10, 3) := by decide +kernel
theorem dX8_left_14 : decode cX8_left 14 = .ok (.iload_n 2, 1) := by decide +kernel
theorem dX8_left_15 : decode cX8_left 15 = .ok (.invokestatic 138, 3) := by decide +kernel
theorem dX8_left_18 : decode cX8_left 18 = .ok (.ifCond .ne 7, 3) := by decide +kernel
theorem dX8_left_21 : decode cX8_left 21 = .ok (.ldc2_w 141, 3) := by decide +kernel
theorem dX8_left_24 : decode cX8_left 24 = .ok (.lreturn, 1) := by decide +kernel
theorem dX8_left_25 : decode cX8_left 25 = .ok (.aload_n 0, 1) := by decide +kernel
theorem dX8_left_26 : decode cX8_left 26 = .ok (.getfield 96, 3) := by decide +kernel
theorem dX8_left_29 : decode cX8_left 29 = .ok (.ifCond .ne 7, 3) := by decide +kernel
theorem dX8_left_32 : decode cX8_left 32 = .ok (.ldc2_w 143, 3) := by decide +kernel
theorem dX8_left_35 : decode cX8_left 35 = .ok (.lreturn, 1) := by decide +kernel
theorem dX8_left_36 : decode cX8_left 36 = .ok (.aload_n 0, 1) := by decide +kernel
theorem dX8_left_37 : decode cX8_left 37 = .ok (.invokevirtual 145, 3) := by decide +kernel
theorem dX8_left_40 : decode cX8_left 40 = .ok (.aload_n 0, 1) := by decide +kernel
theorem dX8_left_41 : decode cX8_left 41 = .ok (.aload_n 0, 1) := by decide +kernel
theorem dX8_left_42 : decode cX8_left 42 = .ok (.getfield 78, 3) := by decide +kernel
theorem dX8_left_45 : decode cX8_left 45 = .ok (.invokevirtual 155, 3) := by decide +kernel
theorem dX8_left_48 : decode cX8_left 48 = .ok (.aload_n 0, 1) := by decide +kernel
theorem dX8_left_49 : decode cX8_left 49 = .ok (.getfield 44, 3) := by decide +kernel
theorem dX8_left_52 : decode cX8_left 52 = .ok (.iload_n 1, 1) := by decide +kernel
theorem dX8_left_53 : decode cX8_left 53 = .ok (.laload, 1) := by decide +kernel
theorem dX8_left_54 : decode cX8_left 54 = .ok (.aload_n 0, 1) := by decide +kernel
theorem dX8_left_55 : decode cX8_left 55 = .ok (.getfield 120, 3) := by decide +kernel
theorem dX8_left_58 : decode cX8_left 58 = .ok (.iload_n 2, 1) := by decide +kernel
theorem dX8_left_59 : decode cX8_left 59 = .ok (.invokestatic 151, 3) := by decide +kernel
theorem dX8_left_62 : decode cX8_left 62 = .ok (.lreturn, 1) := by decide +kernel
theorem dX8_best_0 : decode cX8_best 0 = .ok (.iload_n 1, 1) := by decide +kernel
theorem dX8_best_1 : decode cX8_best 1 = .ok (.i2l, 1) := by decide +kernel
theorem dX8_best_2 : decode cX8_best 2 = .ok (.lconst 0, 1) := by decide +kernel
theorem dX8_best_3 : decode cX8_best 3 = .ok (.aload_n 0, 1) := by decide +kernel
theorem dX8_best_4 : decode cX8_best 4 = .ok (.getfield 78, 3) := by decide +kernel
theorem dX8_best_7 : decode cX8_best 7 = .ok (.iconst 1, 1) := by decide +kernel
theorem dX8_best_8 : decode cX8_best 8 = .ok (.isub, 1) := by decide +kernel
theorem dX8_best_9 : decode cX8_best 9 = .ok (.i2l, 1) := by decide +kernel
theorem dX8_best_10 : decode cX8_best 10 = .ok (.invokestatic 83, 3) := by decide +kernel
theorem dX8_best_13 : decode cX8_best 13 = .ok (.ifCond .eq 17, 3) := by decide +kernel
theorem dX8_best_16 : decode cX8_best 16 = .ok (.iload_n 2, 1) := by decide +kernel
theorem dX8_best_17 : decode cX8_best 17 = .ok (.i2l, 1) := by decide +kernel
theorem dX8_best_18 : decode cX8_best 18 = .ok (.lconst 1, 1) := by decide +kernel
theorem dX8_best_19 : decode cX8_best 19 = .ok (.aload_n 0, 1) := by decide +kernel
theorem dX8_best_20 : decode cX8_best 20 = .ok (.getfield 75, 3) := by decide +kernel
theorem dX8_best_23 : decode cX8_best 23 = .ok (.i2l, 1) := by decide +kernel
theorem dX8_best_24 : decode cX8_best 24 = .ok (.invokestatic 83, 3) := by decide +kernel
theorem dX8_best_27 : decode cX8_best 27 = .ok (.ifCond .ne 6, 3) := by decide +kernel
theorem dX8_best_30 : decode cX8_best 30 = .ok (.bipush (-2), 2) := by decide +kernel
theorem dX8_best_32 : decode cX8_best 32 = .ok (.ireturn, 1) := by decide +kernel
theorem dX8_best_33 : decode cX8_best 33 = .ok (.aload_n 0, 1) := by decide +kernel
theorem dX8_best_34 : decode cX8_best 34 = .ok (.getfield 96, 3) := by decide +kernel
theorem dX8_best_37 : decode cX8_best 37 = .ok (.ifCond .ne 6, 3) := by decide +kernel
theorem dX8_best_40 : decode cX8_best 40 = .ok (.bipush (-3), 2) := by decide +kernel
theorem dX8_best_42 : decode cX8_best 42 = .ok (.ireturn, 1) := by decide +kernel
theorem dX8_best_43 : decode cX8_best 43 = .ok (.aload_n 0, 1) := by decide +kernel
theorem dX8_best_44 : decode cX8_best 44 = .ok (.invokevirtual 158, 3) := by decide +kernel
theorem dX8_best_47 : decode cX8_best 47 = .ok (.aload_n 0, 1) := by decide +kernel
theorem dX8_best_48 : decode cX8_best 48 = .ok (.getfield 35, 3) := by decide +kernel
theorem dX8_best_51 : decode cX8_best 51 = .ok (.bipush 13, 2) := by decide +kernel
theorem dX8_best_53 : decode cX8_best 53 = .ok (.iload_n 1, 1) := by decide +kernel
theorem dX8_best_54 : decode cX8_best 54 = .ok (.imul, 1) := by decide +kernel
theorem dX8_best_55 : decode cX8_best 55 = .ok (.iload_n 2, 1) := by decide +kernel
theorem dX8_best_56 : decode cX8_best 56 = .ok (.iadd, 1) := by decide +kernel
theorem dX8_best_57 : decode cX8_best 57 = .ok (.iaload, 1) := by decide +kernel
theorem dX8_best_58 : decode cX8_best 58 = .ok (.ireturn, 1) := by decide +kernel
theorem dX8_state_0 : decode cX8_state 0 = .ok (.iload_n 1, 1) := by decide +kernel
theorem dX8_state_1 : decode cX8_state 1 = .ok (.i2l, 1) := by decide +kernel
theorem dX8_state_2 : decode cX8_state 2 = .ok (.lconst 0, 1) := by decide +kernel
theorem dX8_state_3 : decode cX8_state 3 = .ok (.aload_n 0, 1) := by decide +kernel
theorem dX8_state_4 : decode cX8_state 4 = .ok (.getfield 78, 3) := by decide +kernel
theorem dX8_state_7 : decode cX8_state 7 = .ok (.i2l, 1) := by decide +kernel
theorem dX8_state_8 : decode cX8_state 8 = .ok (.invokestatic 83, 3) := by decide +kernel
theorem dX8_state_11 : decode cX8_state 11 = .ok (.ifCond .eq 24, 3) := by decide +kernel
theorem dX8_state_14 : decode cX8_state 14 = .ok (.iload_n 2, 1) := by decide +kernel
theorem dX8_state_15 : decode cX8_state 15 = .ok (.i2l, 1) := by decide +kernel
theorem dX8_state_16 : decode cX8_state 16 = .ok (.lconst 0, 1) := by decide +kernel
theorem dX8_state_17 : decode cX8_state 17 = .ok (.aload_n 0, 1) := by decide +kernel
theorem dX8_state_18 : decode cX8_state 18 = .ok (.getfield 75, 3) := by decide +kernel
theorem dX8_state_21 : decode cX8_state 21 = .ok (.i2l, 1) := by decide +kernel
theorem dX8_state_22 : decode cX8_state 22 = .ok (.invokestatic 83, 3) := by decide +kernel
theorem dX8_state_25 : decode cX8_state 25 = .ok (.ifCond .eq 10, 3) := by decide +kernel
theorem dX8_state_28 : decode cX8_state 28 = .ok (.iload_n 3, 1) := by decide +kernel
theorem dX8_state_29 : decode cX8_state 29 = .ok (.invokestatic 138, 3) := by decide +kernel
theorem dX8_state_32 : decode cX8_state 32 = .ok (.ifCond .ne 7, 3) := by decide +kernel
theorem dX8_state_35 : decode cX8_state 35 = .ok (.ldc2_w 141, 3) := by decide +kernel
theorem dX8_state_38 : decode cX8_state 38 = .ok (.lreturn, 1) := by decide +kernel
theorem dX8_state_39 : decode cX8_state 39 = .ok (.aload_n 0, 1) := by decide +kernel
theorem dX8_state_40 : decode cX8_state 40 = .ok (.getfield 96, 3) := by decide +kernel
theorem dX8_state_43 : decode cX8_state 43 = .ok (.ifCond .ne 7, 3) := by decide +kernel
theorem dX8_state_46 : decode cX8_state 46 = .ok (.ldc2_w 143, 3) := by decide +kernel
theorem dX8_state_49 : decode cX8_state 49 = .ok (.lreturn, 1) := by decide +kernel
theorem dX8_state_50 : decode cX8_state 50 = .ok (.aload_n 0, 1) := by decide +kernel
theorem dX8_state_51 : decode cX8_state 51 = .ok (.invokevirtual 158, 3) := by decide +kernel
theorem dX8_state_54 : decode cX8_state 54 = .ok (.aload_n 0, 1) := by decide +kernel
theorem dX8_state_55 : decode cX8_state 55 = .ok (.getfield 32, 3) := by decide +kernel
theorem dX8_state_58 : decode cX8_state 58 = .ok (.bipush 13, 2) := by decide +kernel
theorem dX8_state_60 : decode cX8_state 60 = .ok (.iload_n 1, 1) := by decide +kernel
theorem dX8_state_61 : decode cX8_state 61 = .ok (.imul, 1) := by decide +kernel
theorem dX8_state_62 : decode cX8_state 62 = .ok (.iload_n 2, 1) := by decide +kernel
theorem dX8_state_63 : decode cX8_state 63 = .ok (.iadd, 1) := by decide +kernel
theorem dX8_state_64 : decode cX8_state 64 = .ok (.laload, 1) := by decide +kernel
theorem dX8_state_65 : decode cX8_state 65 = .ok (.aload_n 0, 1) := by decide +kernel
theorem dX8_state_66 : decode cX8_state 66 = .ok (.getfield 103, 3) := by decide +kernel
theorem dX8_state_69 : decode cX8_state 69 = .ok (.aload_n 0, 1) := by decide +kernel
theorem dX8_state_70 : decode cX8_state 70 = .ok (.getfield 78, 3) := by decide +kernel
theorem dX8_state_73 : decode cX8_state 73 = .ok (.iload_n 1, 1) := by decide +kernel
theorem dX8_state_74 : decode cX8_state 74 = .ok (.isub, 1) := by decide +kernel
theorem dX8_state_75 : decode cX8_state 75 = .ok (.imul, 1) := by decide +kernel
theorem dX8_state_76 : decode cX8_state 76 = .ok (.invokestatic 161, 3) := by decide +kernel
theorem dX8_state_79 : decode cX8_state 79 = .ok (.iload_n 3, 1) := by decide +kernel
theorem dX8_state_80 : decode cX8_state 80 = .ok (.invokestatic 151, 3) := by decide +kernel
theorem dX8_state_83 : decode cX8_state 83 = .ok (.lreturn, 1) := by decide +kernel
theorem dX8_dip_0 : decode cX8_dip 0 = .ok (.aload_n 0, 1) := by decide +kernel
theorem dX8_dip_1 : decode cX8_dip 1 = .ok (.getfield 96, 3) := by decide +kernel
theorem dX8_dip_4 : decode cX8_dip 4 = .ok (.ifCond .ne 6, 3) := by decide +kernel
theorem dX8_dip_7 : decode cX8_dip 7 = .ok (.bipush (-3), 2) := by decide +kernel
theorem dX8_dip_9 : decode cX8_dip 9 = .ok (.ireturn, 1) := by decide +kernel
theorem dX8_dip_10 : decode cX8_dip 10 = .ok (.aload_n 0, 1) := by decide +kernel
theorem dX8_dip_11 : decode cX8_dip 11 = .ok (.invokevirtual 158, 3) := by decide +kernel
theorem dX8_dip_14 : decode cX8_dip 14 = .ok (.iconst 0, 1) := by decide +kernel
theorem dX8_dip_15 : decode cX8_dip 15 = .ok (.istore_n 2, 1) := by decide +kernel
theorem dX8_dip_16 : decode cX8_dip 16 = .ok (.iconst 0, 1) := by decide +kernel
theorem dX8_dip_17 : decode cX8_dip 17 = .ok (.istore_n 3, 1) := by decide +kernel
theorem dX8_dip_18 : decode cX8_dip 18 = .ok (.iload_n 3, 1) := by decide +kernel
theorem dX8_dip_19 : decode cX8_dip 19 = .ok (.aload_n 0, 1) := by decide +kernel
theorem dX8_dip_20 : decode cX8_dip 20 = .ok (.getfield 78, 3) := by decide +kernel
theorem dX8_dip_23 : decode cX8_dip 23 = .ok (.if_icmp .ge 72, 3) := by decide +kernel
theorem dX8_dip_26 : decode cX8_dip 26 = .ok (.iconst 1, 1) := by decide +kernel
theorem dX8_dip_27 : decode cX8_dip 27 = .ok (.istore 4, 2) := by decide +kernel
theorem dX8_dip_29 : decode cX8_dip 29 = .ok (.iload 4, 2) := by decide +kernel
theorem dX8_dip_31 : decode cX8_dip 31 = .ok (.aload_n 0, 1) := by decide +kernel
theorem dX8_dip_32 : decode cX8_dip 32 = .ok (.getfield 75, 3) := by decide +kernel
theorem dX8_dip_35 : decode cX8_dip 35 = .ok (.if_icmp .ge 54, 3) := by decide +kernel
theorem dX8_dip_38 : decode cX8_dip 38 = .ok (.aload_n 0, 1) := by decide +kernel
theorem dX8_dip_39 : decode cX8_dip 39 = .ok (.getfield 35, 3) := by decide +kernel
theorem dX8_dip_42 : decode cX8_dip 42 = .ok (.bipush 13, 2) := by decide +kernel
theorem dX8_dip_44 : decode cX8_dip 44 = .ok (.iload_n 3, 1) := by decide +kernel
theorem dX8_dip_45 : decode cX8_dip 45 = .ok (.imul, 1) := by decide +kernel
theorem dX8_dip_46 : decode cX8_dip 46 = .ok (.iload 4, 2) := by decide +kernel
theorem dX8_dip_48 : decode cX8_dip 48 = .ok (.iadd, 1) := by decide +kernel
theorem dX8_dip_49 : decode cX8_dip 49 = .ok (.iaload, 1) := by decide +kernel
theorem dX8_dip_50 : decode cX8_dip 50 = .ok (.aload_n 0, 1) := by decide +kernel
theorem dX8_dip_51 : decode cX8_dip 51 = .ok (.getfield 35, 3) := by decide +kernel
theorem dX8_dip_54 : decode cX8_dip 54 = .ok (.bipush 13, 2) := by decide +kernel
theorem dX8_dip_56 : decode cX8_dip 56 = .ok (.iload_n 3, 1) := by decide +kernel
theorem dX8_dip_57 : decode cX8_dip 57 = .ok (.imul, 1) := by decide +kernel
theorem dX8_dip_58 : decode cX8_dip 58 = .ok (.iload 4, 2) := by decide +kernel
theorem dX8_dip_60 : decode cX8_dip 60 = .ok (.iadd, 1) := by decide +kernel
theorem dX8_dip_61 : decode cX8_dip 61 = .ok (.iconst 1, 1) := by decide +kernel
theorem dX8_dip_62 : decode cX8_dip 62 = .ok (.iadd, 1) := by decide +kernel
theorem dX8_dip_63 : decode cX8_dip 63 = .ok (.iaload, 1) := by decide +kernel
theorem dX8_dip_64 : decode cX8_dip 64 = .ok (.if_icmp .le 19, 3) := by decide +kernel
theorem dX8_dip_67 : decode cX8_dip 67 = .ok (.iload_n 2, 1) := by decide +kernel
theorem dX8_dip_68 : decode cX8_dip 68 = .ok (.iload_n 1, 1) := by decide +kernel
theorem dX8_dip_69 : decode cX8_dip 69 = .ok (.if_icmp .ne 11, 3) := by decide +kernel
theorem dX8_dip_72 : decode cX8_dip 72 = .ok (.bipush 100, 2) := by decide +kernel
theorem dX8_dip_74 : decode cX8_dip 74 = .ok (.iload_n 3, 1) := by decide +kernel
theorem dX8_dip_75 : decode cX8_dip 75 = .ok (.imul, 1) := by decide +kernel
theorem dX8_dip_76 : decode cX8_dip 76 = .ok (.iload 4, 2) := by decide +kernel
theorem dX8_dip_78 : decode cX8_dip 78 = .ok (.iadd, 1) := by decide +kernel
theorem dX8_dip_79 : decode cX8_dip 79 = .ok (.ireturn, 1) := by decide +kernel
theorem dX8_dip_80 : decode cX8_dip 80 = .ok (.iinc 2 1, 3) := by decide +kernel
theorem dX8_dip_83 : decode cX8_dip 83 = .ok (.iinc 4 1, 3) := by decide +kernel
theorem dX8_dip_86 : decode cX8_dip 86 = .ok (.goto (-57), 3) := by decide +kernel
theorem dX8_dip_89 : decode cX8_dip 89 = .ok (.iinc 3 1, 3) := by decide +kernel
theorem dX8_dip_92 : decode cX8_dip 92 = .ok (.goto (-74), 3) := by decide +kernel
theorem dX8_dip_95 : decode cX8_dip 95 = .ok (.iload_n 1, 1) := by decide +kernel
theorem dX8_dip_96 : decode cX8_dip 96 = .ok (.iconst (-1), 1) := by decide +kernel
theorem dX8_dip_97 : decode cX8_dip 97 = .ok (.if_icmp .ne 7, 3) := by decide +kernel
theorem dX8_dip_100 : decode cX8_dip 100 = .ok (.iload_n 2, 1) := by decide +kernel
theorem dX8_dip_101 : decode cX8_dip 101 = .ok (.goto 5, 3) := by decide +kernel
theorem dX8_dip_104 : decode cX8_dip 104 = .ok (.bipush (-6), 2) := by decide +kernel
theorem dX8_dip_106 : decode cX8_dip 106 = .ok (.ireturn, 1) := by decide +kernel
theorem dX8_nextPlan_0 : decode cX8_nextPlan 0 = .ok (.aload_n 0, 1) := by decide +kernel
theorem dX8_nextPlan_1 : decode cX8_nextPlan 1 = .ok (.getfield 78, 3) := by decide +kernel
theorem dX8_nextPlan_4 : decode cX8_nextPlan 4 = .ok (.iconst 1, 1) := by decide +kernel
theorem dX8_nextPlan_5 : decode cX8_nextPlan 5 = .ok (.isub, 1) := by decide +kernel
theorem dX8_nextPlan_6 : decode cX8_nextPlan 6 = .ok (.istore_n 1, 1) := by decide +kernel
theorem dX8_nextPlan_7 : decode cX8_nextPlan 7 = .ok (.iload_n 1, 1) := by decide +kernel
theorem dX8_nextPlan_8 : decode cX8_nextPlan 8 = .ok (.ifCond .lt 24, 3) := by decide +kernel
theorem dX8_nextPlan_11 : decode cX8_nextPlan 11 = .ok (.aload_n 0, 1) := by decide +kernel
theorem dX8_nextPlan_12 : decode cX8_nextPlan 12 = .ok (.getfield 41, 3) := by decide +kernel
theorem dX8_nextPlan_15 : decode cX8_nextPlan 15 = .ok (.iload_n 1, 1) := by decide +kernel
theorem dX8_nextPlan_16 : decode cX8_nextPlan 16 = .ok (.iaload, 1) := by decide +kernel
theorem dX8_nextPlan_17 : decode cX8_nextPlan 17 = .ok (.aload_n 0, 1) := by decide +kernel
theorem dX8_nextPlan_18 : decode cX8_nextPlan 18 = .ok (.getfield 96, 3) := by decide +kernel
theorem dX8_nextPlan_21 : decode cX8_nextPlan 21 = .ok (.iconst 1, 1) := by decide +kernel
theorem dX8_nextPlan_22 : decode cX8_nextPlan 22 = .ok (.isub, 1) := by decide +kernel
theorem dX8_nextPlan_23 : decode cX8_nextPlan 23 = .ok (.if_icmp .ne 9, 3) := by decide +kernel
theorem dX8_nextPlan_26 : decode cX8_nextPlan 26 = .ok (.iinc 1 (-1), 3) := by decide +kernel
theorem dX8_nextPlan_29 : decode cX8_nextPlan 29 = .ok (.goto (-22), 3) := by decide +kernel
theorem dX8_nextPlan_32 : decode cX8_nextPlan 32 = .ok (.iload_n 1, 1) := by decide +kernel
theorem dX8_nextPlan_33 : decode cX8_nextPlan 33 = .ok (.ifCond .ge 5, 3) := by decide +kernel
theorem dX8_nextPlan_36 : decode cX8_nextPlan 36 = .ok (.iconst 0, 1) := by decide +kernel
theorem dX8_nextPlan_37 : decode cX8_nextPlan 37 = .ok (.ireturn, 1) := by decide +kernel
theorem dX8_nextPlan_38 : decode cX8_nextPlan 38 = .ok (.aload_n 0, 1) := by decide +kernel
theorem dX8_nextPlan_39 : decode cX8_nextPlan 39 = .ok (.getfield 41, 3) := by decide +kernel
theorem dX8_nextPlan_42 : decode cX8_nextPlan 42 = .ok (.iload_n 1, 1) := by decide +kernel
theorem dX8_nextPlan_43 : decode cX8_nextPlan 43 = .ok (.dup2, 1) := by decide +kernel
theorem dX8_nextPlan_44 : decode cX8_nextPlan 44 = .ok (.iaload, 1) := by decide +kernel
theorem dX8_nextPlan_45 : decode cX8_nextPlan 45 = .ok (.iconst 1, 1) := by decide +kernel
theorem dX8_nextPlan_46 : decode cX8_nextPlan 46 = .ok (.iadd, 1) := by decide +kernel
theorem dX8_nextPlan_47 : decode cX8_nextPlan 47 = .ok (.iastore, 1) := by decide +kernel
theorem dX8_nextPlan_48 : decode cX8_nextPlan 48 = .ok (.iload_n 1, 1) := by decide +kernel
theorem dX8_nextPlan_49 : decode cX8_nextPlan 49 = .ok (.iconst 1, 1) := by decide +kernel
theorem dX8_nextPlan_50 : decode cX8_nextPlan 50 = .ok (.iadd, 1) := by decide +kernel
theorem dX8_nextPlan_51 : decode cX8_nextPlan 51 = .ok (.istore_n 2, 1) := by decide +kernel
theorem dX8_nextPlan_52 : decode cX8_nextPlan 52 = .ok (.iload_n 2, 1) := by decide +kernel
theorem dX8_nextPlan_53 : decode cX8_nextPlan 53 = .ok (.aload_n 0, 1) := by decide +kernel
theorem dX8_nextPlan_54 : decode cX8_nextPlan 54 = .ok (.getfield 78, 3) := by decide +kernel
theorem dX8_nextPlan_57 : decode cX8_nextPlan 57 = .ok (.if_icmp .ge 21, 3) := by decide +kernel
theorem dX8_nextPlan_60 : decode cX8_nextPlan 60 = .ok (.aload_n 0, 1) := by decide +kernel
theorem dX8_nextPlan_61 : decode cX8_nextPlan 61 = .ok (.getfield 41, 3) := by decide +kernel
theorem dX8_nextPlan_64 : decode cX8_nextPlan 64 = .ok (.iload_n 2, 1) := by decide +kernel
theorem dX8_nextPlan_65 : decode cX8_nextPlan 65 = .ok (.aload_n 0, 1) := by decide +kernel
theorem dX8_nextPlan_66 : decode cX8_nextPlan 66 = .ok (.getfield 41, 3) := by decide +kernel
theorem dX8_nextPlan_69 : decode cX8_nextPlan 69 = .ok (.iload_n 1, 1) := by decide +kernel
theorem dX8_nextPlan_70 : decode cX8_nextPlan 70 = .ok (.iaload, 1) := by decide +kernel
theorem dX8_nextPlan_71 : decode cX8_nextPlan 71 = .ok (.iastore, 1) := by decide +kernel
theorem dX8_nextPlan_72 : decode cX8_nextPlan 72 = .ok (.iinc 2 1, 3) := by decide +kernel
theorem dX8_nextPlan_75 : decode cX8_nextPlan 75 = .ok (.goto (-23), 3) := by decide +kernel
theorem dX8_nextPlan_78 : decode cX8_nextPlan 78 = .ok (.iconst 1, 1) := by decide +kernel
theorem dX8_nextPlan_79 : decode cX8_nextPlan 79 = .ok (.ireturn, 1) := by decide +kernel
theorem dX8_isOnce_0 : decode cX8_isOnce 0 = .ok (.iconst 0, 1) := by decide +kernel
theorem dX8_isOnce_1 : decode cX8_isOnce 1 = .ok (.istore_n 1, 1) := by decide +kernel
theorem dX8_isOnce_2 : decode cX8_isOnce 2 = .ok (.iconst 1, 1) := by decide +kernel
theorem dX8_isOnce_3 : decode cX8_isOnce 3 = .ok (.istore_n 2, 1) := by decide +kernel
theorem dX8_isOnce_4 : decode cX8_isOnce 4 = .ok (.iload_n 2, 1) := by decide +kernel
theorem dX8_isOnce_5 : decode cX8_isOnce 5 = .ok (.aload_n 0, 1) := by decide +kernel
theorem dX8_isOnce_6 : decode cX8_isOnce 6 = .ok (.getfield 78, 3) := by decide +kernel
theorem dX8_isOnce_9 : decode cX8_isOnce 9 = .ok (.if_icmp .ge 34, 3) := by decide +kernel
theorem dX8_isOnce_12 : decode cX8_isOnce 12 = .ok (.iload_n 1, 1) := by decide +kernel
theorem dX8_isOnce_13 : decode cX8_isOnce 13 = .ok (.aload_n 0, 1) := by decide +kernel
theorem dX8_isOnce_14 : decode cX8_isOnce 14 = .ok (.getfield 41, 3) := by decide +kernel
theorem dX8_isOnce_17 : decode cX8_isOnce 17 = .ok (.iload_n 2, 1) := by decide +kernel
theorem dX8_isOnce_18 : decode cX8_isOnce 18 = .ok (.iaload, 1) := by decide +kernel
theorem dX8_isOnce_19 : decode cX8_isOnce 19 = .ok (.aload_n 0, 1) := by decide +kernel
theorem dX8_isOnce_20 : decode cX8_isOnce 20 = .ok (.getfield 41, 3) := by decide +kernel
theorem dX8_isOnce_23 : decode cX8_isOnce 23 = .ok (.iload_n 2, 1) := by decide +kernel
theorem dX8_isOnce_24 : decode cX8_isOnce 24 = .ok (.iconst 1, 1) := by decide +kernel
theorem dX8_isOnce_25 : decode cX8_isOnce 25 = .ok (.isub, 1) := by decide +kernel
theorem dX8_isOnce_26 : decode cX8_isOnce 26 = .ok (.iaload, 1) := by decide +kernel
theorem dX8_isOnce_27 : decode cX8_isOnce 27 = .ok (.if_icmp .eq 7, 3) := by decide +kernel
theorem dX8_isOnce_30 : decode cX8_isOnce 30 = .ok (.iconst 1, 1) := by decide +kernel
theorem dX8_isOnce_31 : decode cX8_isOnce 31 = .ok (.goto 4, 3) := by decide +kernel
theorem dX8_isOnce_34 : decode cX8_isOnce 34 = .ok (.iconst 0, 1) := by decide +kernel
theorem dX8_isOnce_35 : decode cX8_isOnce 35 = .ok (.iadd, 1) := by decide +kernel
theorem dX8_isOnce_36 : decode cX8_isOnce 36 = .ok (.istore_n 1, 1) := by decide +kernel
theorem dX8_isOnce_37 : decode cX8_isOnce 37 = .ok (.iinc 2 1, 3) := by decide +kernel
theorem dX8_isOnce_40 : decode cX8_isOnce 40 = .ok (.goto (-36), 3) := by decide +kernel
theorem dX8_isOnce_43 : decode cX8_isOnce 43 = .ok (.iload_n 1, 1) := by decide +kernel
theorem dX8_isOnce_44 : decode cX8_isOnce 44 = .ok (.iconst 2, 1) := by decide +kernel
theorem dX8_isOnce_45 : decode cX8_isOnce 45 = .ok (.if_icmp .ge 7, 3) := by decide +kernel
theorem dX8_isOnce_48 : decode cX8_isOnce 48 = .ok (.iconst 1, 1) := by decide +kernel
theorem dX8_isOnce_49 : decode cX8_isOnce 49 = .ok (.goto 4, 3) := by decide +kernel
theorem dX8_isOnce_52 : decode cX8_isOnce 52 = .ok (.iconst 0, 1) := by decide +kernel
theorem dX8_isOnce_53 : decode cX8_isOnce 53 = .ok (.ireturn, 1) := by decide +kernel
theorem dX8_pickOf_0 : decode cX8_pickOf 0 = .ok (.bipush (-6), 2) := by decide +kernel
theorem dX8_pickOf_2 : decode cX8_pickOf 2 = .ok (.istore_n 3, 1) := by decide +kernel
theorem dX8_pickOf_3 : decode cX8_pickOf 3 = .ok (.iconst (-1), 1) := by decide +kernel
theorem dX8_pickOf_4 : decode cX8_pickOf 4 = .ok (.istore 4, 2) := by decide +kernel
theorem dX8_pickOf_6 : decode cX8_pickOf 6 = .ok (.iload_n 2, 1) := by decide +kernel
theorem dX8_pickOf_7 : decode cX8_pickOf 7 = .ok (.istore 5, 2) := by decide +kernel
theorem dX8_pickOf_9 : decode cX8_pickOf 9 = .ok (.iload 5, 2) := by decide +kernel
theorem dX8_pickOf_11 : decode cX8_pickOf 11 = .ok (.aload_n 0, 1) := by decide +kernel
theorem dX8_pickOf_12 : decode cX8_pickOf 12 = .ok (.getfield 78, 3) := by decide +kernel
theorem dX8_pickOf_15 : decode cX8_pickOf 15 = .ok (.if_icmp .ge 57, 3) := by decide +kernel
