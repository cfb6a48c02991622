theorem dX8_pickOf_18 : decode cX8_pickOf 18 = .ok (.aload_n 0, 1) := by decide +kernel
theorem dX8_pickOf_19 : decode cX8_pickOf 19 = .ok (.iload_n 1, 1) := by decide +kernel
theorem dX8_pickOf_20 : decode cX8_pickOf 20 = .ok (.iload 5, 2) := by decide +kernel
theorem dX8_pickOf_22 : decode cX8_pickOf 22 = .ok (.invokevirtual 116, 3) := by decide +kernel
theorem dX8_pickOf_25 : decode cX8_pickOf 25 = .ok (.aload_n 0, 1) := by decide +kernel
theorem dX8_pickOf_26 : decode cX8_pickOf 26 = .ok (.getfield 7, 3) := by decide +kernel
theorem dX8_pickOf_29 : decode cX8_pickOf 29 = .ok (.aload_n 0, 1) := by decide +kernel
theorem dX8_pickOf_30 : decode cX8_pickOf 30 = .ok (.getfield 41, 3) := by decide +kernel
theorem dX8_pickOf_33 : decode cX8_pickOf 33 = .ok (.iload 5, 2) := by decide +kernel
theorem dX8_pickOf_35 : decode cX8_pickOf 35 = .ok (.iaload, 1) := by decide +kernel
theorem dX8_pickOf_36 : decode cX8_pickOf 36 = .ok (.iaload, 1) := by decide +kernel
theorem dX8_pickOf_37 : decode cX8_pickOf 37 = .ok (.isub, 1) := by decide +kernel
theorem dX8_pickOf_38 : decode cX8_pickOf 38 = .ok (.aload_n 0, 1) := by decide +kernel
theorem dX8_pickOf_39 : decode cX8_pickOf 39 = .ok (.getfield 22, 3) := by decide +kernel
theorem dX8_pickOf_42 : decode cX8_pickOf 42 = .ok (.iload_n 1, 1) := by decide +kernel
theorem dX8_pickOf_43 : decode cX8_pickOf 43 = .ok (.iaload, 1) := by decide +kernel
theorem dX8_pickOf_44 : decode cX8_pickOf 44 = .ok (.iload 5, 2) := by decide +kernel
theorem dX8_pickOf_46 : decode cX8_pickOf 46 = .ok (.iload_n 2, 1) := by decide +kernel
theorem dX8_pickOf_47 : decode cX8_pickOf 47 = .ok (.isub, 1) := by decide +kernel
theorem dX8_pickOf_48 : decode cX8_pickOf 48 = .ok (.imul, 1) := by decide +kernel
theorem dX8_pickOf_49 : decode cX8_pickOf 49 = .ok (.isub, 1) := by decide +kernel
theorem dX8_pickOf_50 : decode cX8_pickOf 50 = .ok (.istore 6, 2) := by decide +kernel
theorem dX8_pickOf_52 : decode cX8_pickOf 52 = .ok (.iload 6, 2) := by decide +kernel
theorem dX8_pickOf_54 : decode cX8_pickOf 54 = .ok (.iload 4, 2) := by decide +kernel
theorem dX8_pickOf_56 : decode cX8_pickOf 56 = .ok (.if_icmp .le 10, 3) := by decide +kernel
theorem dX8_pickOf_59 : decode cX8_pickOf 59 = .ok (.iload 6, 2) := by decide +kernel
theorem dX8_pickOf_61 : decode cX8_pickOf 61 = .ok (.istore 4, 2) := by decide +kernel
theorem dX8_pickOf_63 : decode cX8_pickOf 63 = .ok (.iload 5, 2) := by decide +kernel
theorem dX8_pickOf_65 : decode cX8_pickOf 65 = .ok (.istore_n 3, 1) := by decide +kernel
theorem dX8_pickOf_66 : decode cX8_pickOf 66 = .ok (.iinc 5 1, 3) := by decide +kernel
theorem dX8_pickOf_69 : decode cX8_pickOf 69 = .ok (.goto (-60), 3) := by decide +kernel
theorem dX8_pickOf_72 : decode cX8_pickOf 72 = .ok (.iload_n 3, 1) := by decide +kernel
theorem dX8_pickOf_73 : decode cX8_pickOf 73 = .ok (.ireturn, 1) := by decide +kernel
theorem dX8_meet_0 : decode cX8_meet 0 = .ok (.aload_n 0, 1) := by decide +kernel
theorem dX8_meet_1 : decode cX8_meet 1 = .ok (.invokevirtual 128, 3) := by decide +kernel
theorem dX8_meet_4 : decode cX8_meet 4 = .ok (.aload_n 0, 1) := by decide +kernel
theorem dX8_meet_5 : decode cX8_meet 5 = .ok (.getfield 78, 3) := by decide +kernel
theorem dX8_meet_8 : decode cX8_meet 8 = .ok (.iconst 1, 1) := by decide +kernel
theorem dX8_meet_9 : decode cX8_meet 9 = .ok (.isub, 1) := by decide +kernel
theorem dX8_meet_10 : decode cX8_meet 10 = .ok (.istore_n 1, 1) := by decide +kernel
theorem dX8_meet_11 : decode cX8_meet 11 = .ok (.iload_n 1, 1) := by decide +kernel
theorem dX8_meet_12 : decode cX8_meet 12 = .ok (.ifCond .lt 133, 3) := by decide +kernel
theorem dX8_meet_15 : decode cX8_meet 15 = .ok (.aload_n 0, 1) := by decide +kernel
theorem dX8_meet_16 : decode cX8_meet 16 = .ok (.getfield 7, 3) := by decide +kernel
theorem dX8_meet_19 : decode cX8_meet 19 = .ok (.aload_n 0, 1) := by decide +kernel
theorem dX8_meet_20 : decode cX8_meet 20 = .ok (.getfield 41, 3) := by decide +kernel
theorem dX8_meet_23 : decode cX8_meet 23 = .ok (.iload_n 1, 1) := by decide +kernel
theorem dX8_meet_24 : decode cX8_meet 24 = .ok (.iaload, 1) := by decide +kernel
theorem dX8_meet_25 : decode cX8_meet 25 = .ok (.iaload, 1) := by decide +kernel
theorem dX8_meet_26 : decode cX8_meet 26 = .ok (.istore_n 2, 1) := by decide +kernel
theorem dX8_meet_27 : decode cX8_meet 27 = .ok (.iload_n 1, 1) := by decide +kernel
theorem dX8_meet_28 : decode cX8_meet 28 = .ok (.istore_n 3, 1) := by decide +kernel
theorem dX8_meet_29 : decode cX8_meet 29 = .ok (.iload_n 3, 1) := by decide +kernel
theorem dX8_meet_30 : decode cX8_meet 30 = .ok (.ifCond .lt 109, 3) := by decide +kernel
theorem dX8_meet_33 : decode cX8_meet 33 = .ok (.aload_n 0, 1) := by decide +kernel
theorem dX8_meet_34 : decode cX8_meet 34 = .ok (.getfield 103, 3) := by decide +kernel
theorem dX8_meet_37 : decode cX8_meet 37 = .ok (.iconst 1, 1) := by decide +kernel
theorem dX8_meet_38 : decode cX8_meet 38 = .ok (.isub, 1) := by decide +kernel
theorem dX8_meet_39 : decode cX8_meet 39 = .ok (.istore 4, 2) := by decide +kernel
theorem dX8_meet_41 : decode cX8_meet 41 = .ok (.iload 4, 2) := by decide +kernel
theorem dX8_meet_43 : decode cX8_meet 43 = .ok (.ifCond .lt 90, 3) := by decide +kernel
theorem dX8_meet_46 : decode cX8_meet 46 = .ok (.aload_n 0, 1) := by decide +kernel
theorem dX8_meet_47 : decode cX8_meet 47 = .ok (.getfield 22, 3) := by decide +kernel
theorem dX8_meet_50 : decode cX8_meet 50 = .ok (.iload 4, 2) := by decide +kernel
theorem dX8_meet_52 : decode cX8_meet 52 = .ok (.iaload, 1) := by decide +kernel
theorem dX8_meet_53 : decode cX8_meet 53 = .ok (.ifCond .lt 7, 3) := by decide +kernel
theorem dX8_meet_56 : decode cX8_meet 56 = .ok (.iconst 1, 1) := by decide +kernel
theorem dX8_meet_57 : decode cX8_meet 57 = .ok (.goto 4, 3) := by decide +kernel
theorem dX8_meet_60 : decode cX8_meet 60 = .ok (.iconst 0, 1) := by decide +kernel
theorem dX8_meet_61 : decode cX8_meet 61 = .ok (.istore 5, 2) := by decide +kernel
theorem dX8_meet_63 : decode cX8_meet 63 = .ok (.iload 5, 2) := by decide +kernel
theorem dX8_meet_65 : decode cX8_meet 65 = .ok (.ifCond .eq 22, 3) := by decide +kernel
theorem dX8_meet_68 : decode cX8_meet 68 = .ok (.aload_n 0, 1) := by decide +kernel
theorem dX8_meet_69 : decode cX8_meet 69 = .ok (.iload 4, 2) := by decide +kernel
theorem dX8_meet_71 : decode cX8_meet 71 = .ok (.iload_n 3, 1) := by decide +kernel
theorem dX8_meet_72 : decode cX8_meet 72 = .ok (.invokevirtual 165, 3) := by decide +kernel
theorem dX8_meet_75 : decode cX8_meet 75 = .ok (.iload_n 1, 1) := by decide +kernel
theorem dX8_meet_76 : decode cX8_meet 76 = .ok (.if_icmp .ne 7, 3) := by decide +kernel
theorem dX8_meet_79 : decode cX8_meet 79 = .ok (.iconst 1, 1) := by decide +kernel
theorem dX8_meet_80 : decode cX8_meet 80 = .ok (.goto 28, 3) := by decide +kernel
theorem dX8_meet_83 : decode cX8_meet 83 = .ok (.iconst 0, 1) := by decide +kernel
theorem dX8_meet_84 : decode cX8_meet 84 = .ok (.goto 24, 3) := by decide +kernel
theorem dX8_meet_87 : decode cX8_meet 87 = .ok (.iload_n 3, 1) := by decide +kernel
theorem dX8_meet_88 : decode cX8_meet 88 = .ok (.iload_n 1, 1) := by decide +kernel
theorem dX8_meet_89 : decode cX8_meet 89 = .ok (.if_icmp .ne 18, 3) := by decide +kernel
theorem dX8_meet_92 : decode cX8_meet 92 = .ok (.aload_n 0, 1) := by decide +kernel
theorem dX8_meet_93 : decode cX8_meet 93 = .ok (.iload 4, 2) := by decide +kernel
theorem dX8_meet_95 : decode cX8_meet 95 = .ok (.iload_n 1, 1) := by decide +kernel
theorem dX8_meet_96 : decode cX8_meet 96 = .ok (.invokevirtual 116, 3) := by decide +kernel
theorem dX8_meet_99 : decode cX8_meet 99 = .ok (.iload_n 2, 1) := by decide +kernel
theorem dX8_meet_100 : decode cX8_meet 100 = .ok (.if_icmp .lt 7, 3) := by decide +kernel
theorem dX8_meet_103 : decode cX8_meet 103 = .ok (.iconst 1, 1) := by decide +kernel
theorem dX8_meet_104 : decode cX8_meet 104 = .ok (.goto 4, 3) := by decide +kernel
theorem dX8_meet_107 : decode cX8_meet 107 = .ok (.iconst 0, 1) := by decide +kernel
theorem dX8_meet_108 : decode cX8_meet 108 = .ok (.istore 6, 2) := by decide +kernel
theorem dX8_meet_110 : decode cX8_meet 110 = .ok (.iload 6, 2) := by decide +kernel
theorem dX8_meet_112 : decode cX8_meet 112 = .ok (.ifCond .eq 15, 3) := by decide +kernel
theorem dX8_meet_115 : decode cX8_meet 115 = .ok (.aload_n 0, 1) := by decide +kernel
theorem dX8_meet_116 : decode cX8_meet 116 = .ok (.aload_n 0, 1) := by decide +kernel
theorem dX8_meet_117 : decode cX8_meet 117 = .ok (.getfield 13, 3) := by decide +kernel
theorem dX8_meet_120 : decode cX8_meet 120 = .ok (.iload 4, 2) := by decide +kernel
theorem dX8_meet_122 : decode cX8_meet 122 = .ok (.iaload, 1) := by decide +kernel
theorem dX8_meet_123 : decode cX8_meet 123 = .ok (.iload_n 2, 1) := by decide +kernel
theorem dX8_meet_124 : decode cX8_meet 124 = .ok (.invokevirtual 124, 3) := by decide +kernel
theorem dX8_meet_127 : decode cX8_meet 127 = .ok (.iinc 4 (-1), 3) := by decide +kernel
theorem dX8_meet_130 : decode cX8_meet 130 = .ok (.goto (-89), 3) := by decide +kernel
theorem dX8_meet_133 : decode cX8_meet 133 = .ok (.iinc 3 (-1), 3) := by decide +kernel
theorem dX8_meet_136 : decode cX8_meet 136 = .ok (.goto (-107), 3) := by decide +kernel
theorem dX8_meet_139 : decode cX8_meet 139 = .ok (.iinc 1 (-1), 3) := by decide +kernel
theorem dX8_meet_142 : decode cX8_meet 142 = .ok (.goto (-131), 3) := by decide +kernel
theorem dX8_meet_145 : decode cX8_meet 145 = .ok (.aload_n 0, 1) := by decide +kernel
theorem dX8_meet_146 : decode cX8_meet 146 = .ok (.getfield 120, 3) := by decide +kernel
theorem dX8_meet_149 : decode cX8_meet 149 = .ok (.aload_n 0, 1) := by decide +kernel
theorem dX8_meet_150 : decode cX8_meet 150 = .ok (.getfield 103, 3) := by decide +kernel
theorem dX8_meet_153 : decode cX8_meet 153 = .ok (.aload_n 0, 1) := by decide +kernel
theorem dX8_meet_154 : decode cX8_meet 154 = .ok (.getfield 78, 3) := by decide +kernel
theorem dX8_meet_157 : decode cX8_meet 157 = .ok (.imul, 1) := by decide +kernel
theorem dX8_meet_158 : decode cX8_meet 158 = .ok (.invokestatic 161, 3) := by decide +kernel
theorem dX8_meet_161 : decode cX8_meet 161 = .ok (.lcmp, 1) := by decide +kernel
theorem dX8_meet_162 : decode cX8_meet 162 = .ok (.ifCond .ge 12, 3) := by decide +kernel
theorem dX8_meet_165 : decode cX8_meet 165 = .ok (.aload_n 0, 1) := by decide +kernel
theorem dX8_meet_166 : decode cX8_meet 166 = .ok (.iconst 0, 1) := by decide +kernel
theorem dX8_meet_167 : decode cX8_meet 167 = .ok (.iconst 0, 1) := by decide +kernel
theorem dX8_meet_168 : decode cX8_meet 168 = .ok (.invokevirtual 124, 3) := by decide +kernel
theorem dX8_meet_171 : decode cX8_meet 171 = .ok (.goto (-26), 3) := by decide +kernel
theorem dX8_meet_174 : decode cX8_meet 174 = .ok (.return_, 1) := by decide +kernel
theorem dX8_findKept_0 : decode cX8_findKept 0 = .ok (.ldc2_w 112, 3) := by decide +kernel
theorem dX8_findKept_3 : decode cX8_findKept 3 = .ok (.lstore_n 2, 1) := by decide +kernel
theorem dX8_findKept_4 : decode cX8_findKept 4 = .ok (.iconst 0, 1) := by decide +kernel
theorem dX8_findKept_5 : decode cX8_findKept 5 = .ok (.istore 4, 2) := by decide +kernel
theorem dX8_findKept_7 : decode cX8_findKept 7 = .ok (.iload 4, 2) := by decide +kernel
theorem dX8_findKept_9 : decode cX8_findKept 9 = .ok (.bipush 6, 2) := by decide +kernel
theorem dX8_findKept_11 : decode cX8_findKept 11 = .ok (.if_icmp .ge 17, 3) := by decide +kernel
theorem dX8_findKept_14 : decode cX8_findKept 14 = .ok (.aload_n 0, 1) := by decide +kernel
theorem dX8_findKept_15 : decode cX8_findKept 15 = .ok (.getfield 41, 3) := by decide +kernel
theorem dX8_findKept_18 : decode cX8_findKept 18 = .ok (.iload 4, 2) := by decide +kernel
theorem dX8_findKept_20 : decode cX8_findKept 20 = .ok (.iconst 0, 1) := by decide +kernel
theorem dX8_findKept_21 : decode cX8_findKept 21 = .ok (.iastore, 1) := by decide +kernel
theorem dX8_findKept_22 : decode cX8_findKept 22 = .ok (.iinc 4 1, 3) := by decide +kernel
theorem dX8_findKept_25 : decode cX8_findKept 25 = .ok (.goto (-18), 3) := by decide +kernel
theorem dX8_findKept_28 : decode cX8_findKept 28 = .ok (.iconst 1, 1) := by decide +kernel
theorem dX8_findKept_29 : decode cX8_findKept 29 = .ok (.istore 4, 2) := by decide +kernel
theorem dX8_findKept_31 : decode cX8_findKept 31 = .ok (.iload 4, 2) := by decide +kernel
theorem dX8_findKept_33 : decode cX8_findKept 33 = .ok (.ifCond .eq 97, 3) := by decide +kernel
theorem dX8_findKept_36 : decode cX8_findKept 36 = .ok (.iload_n 1, 1) := by decide +kernel
theorem dX8_findKept_37 : decode cX8_findKept 37 = .ok (.iconst 1, 1) := by decide +kernel
theorem dX8_findKept_38 : decode cX8_findKept 38 = .ok (.if_icmp .ne 10, 3) := by decide +kernel
theorem dX8_findKept_41 : decode cX8_findKept 41 = .ok (.aload_n 0, 1) := by decide +kernel
theorem dX8_findKept_42 : decode cX8_findKept 42 = .ok (.invokevirtual 168, 3) := by decide +kernel
theorem dX8_findKept_45 : decode cX8_findKept 45 = .ok (.ifCond .eq 76, 3) := by decide +kernel
theorem dX8_findKept_48 : decode cX8_findKept 48 = .ok (.iload_n 1, 1) := by decide +kernel
theorem dX8_findKept_49 : decode cX8_findKept 49 = .ok (.iconst 2, 1) := by decide +kernel
theorem dX8_findKept_50 : decode cX8_findKept 50 = .ok (.if_icmp .ne 10, 3) := by decide +kernel
theorem dX8_findKept_53 : decode cX8_findKept 53 = .ok (.aload_n 0, 1) := by decide +kernel
theorem dX8_findKept_54 : decode cX8_findKept 54 = .ok (.invokevirtual 172, 3) := by decide +kernel
theorem dX8_findKept_57 : decode cX8_findKept 57 = .ok (.goto 8, 3) := by decide +kernel
theorem dX8_findKept_60 : decode cX8_findKept 60 = .ok (.aload_n 0, 1) := by decide +kernel
theorem dX8_findKept_61 : decode cX8_findKept 61 = .ok (.iconst 0, 1) := by decide +kernel
theorem dX8_findKept_62 : decode cX8_findKept 62 = .ok (.invokevirtual 148, 3) := by decide +kernel
theorem dX8_findKept_65 : decode cX8_findKept 65 = .ok (.aload_n 0, 1) := by decide +kernel
theorem dX8_findKept_66 : decode cX8_findKept 66 = .ok (.getfield 28, 3) := by decide +kernel
theorem dX8_findKept_69 : decode cX8_findKept 69 = .ok (.aload_n 0, 1) := by decide +kernel
theorem dX8_findKept_70 : decode cX8_findKept 70 = .ok (.getfield 75, 3) := by decide +kernel
theorem dX8_findKept_73 : decode cX8_findKept 73 = .ok (.laload, 1) := by decide +kernel
theorem dX8_findKept_74 : decode cX8_findKept 74 = .ok (.lload_n 2, 1) := by decide +kernel
theorem dX8_findKept_75 : decode cX8_findKept 75 = .ok (.lcmp, 1) := by decide +kernel
theorem dX8_findKept_76 : decode cX8_findKept 76 = .ok (.ifCond .le 45, 3) := by decide +kernel
theorem dX8_findKept_79 : decode cX8_findKept 79 = .ok (.aload_n 0, 1) := by decide +kernel
theorem dX8_findKept_80 : decode cX8_findKept 80 = .ok (.getfield 28, 3) := by decide +kernel
theorem dX8_findKept_83 : decode cX8_findKept 83 = .ok (.aload_n 0, 1) := by decide +kernel
theorem dX8_findKept_84 : decode cX8_findKept 84 = .ok (.getfield 75, 3) := by decide +kernel
theorem dX8_findKept_87 : decode cX8_findKept 87 = .ok (.laload, 1) := by decide +kernel
theorem dX8_findKept_88 : decode cX8_findKept 88 = .ok (.lstore_n 2, 1) := by decide +kernel
theorem dX8_findKept_89 : decode cX8_findKept 89 = .ok (.iconst 0, 1) := by decide +kernel
theorem dX8_findKept_90 : decode cX8_findKept 90 = .ok (.istore 5, 2) := by decide +kernel
theorem dX8_findKept_92 : decode cX8_findKept 92 = .ok (.iload 5, 2) := by decide +kernel
theorem dX8_findKept_94 : decode cX8_findKept 94 = .ok (.aload_n 0, 1) := by decide +kernel
theorem dX8_findKept_95 : decode cX8_findKept 95 = .ok (.getfield 78, 3) := by decide +kernel
theorem dX8_findKept_98 : decode cX8_findKept 98 = .ok (.if_icmp .ge 23, 3) := by decide +kernel
theorem dX8_findKept_101 : decode cX8_findKept 101 = .ok (.aload_n 0, 1) := by decide +kernel
theorem dX8_findKept_102 : decode cX8_findKept 102 = .ok (.getfield 47, 3) := by decide +kernel
theorem dX8_findKept_105 : decode cX8_findKept 105 = .ok (.iload 5, 2) := by decide +kernel
theorem dX8_findKept_107 : decode cX8_findKept 107 = .ok (.aload_n 0, 1) := by decide +kernel
theorem dX8_findKept_108 : decode cX8_findKept 108 = .ok (.getfield 41, 3) := by decide +kernel
theorem dX8_findKept_111 : decode cX8_findKept 111 = .ok (.iload 5, 2) := by decide +kernel
theorem dX8_findKept_113 : decode cX8_findKept 113 = .ok (.iaload, 1) := by decide +kernel
theorem dX8_findKept_114 : decode cX8_findKept 114 = .ok (.iastore, 1) := by decide +kernel
theorem dX8_findKept_115 : decode cX8_findKept 115 = .ok (.iinc 5 1, 3) := by decide +kernel
theorem dX8_findKept_118 : decode cX8_findKept 118 = .ok (.goto (-26), 3) := by decide +kernel
theorem dX8_findKept_121 : decode cX8_findKept 121 = .ok (.aload_n 0, 1) := by decide +kernel
theorem dX8_findKept_122 : decode cX8_findKept 122 = .ok (.invokevirtual 175, 3) := by decide +kernel
theorem dX8_findKept_125 : decode cX8_findKept 125 = .ok (.istore 4, 2) := by decide +kernel
theorem dX8_findKept_127 : decode cX8_findKept 127 = .ok (.goto (-96), 3) := by decide +kernel
theorem dX8_findKept_130 : decode cX8_findKept 130 = .ok (.lload_n 2, 1) := by decide +kernel
theorem dX8_findKept_131 : decode cX8_findKept 131 = .ok (.lreturn, 1) := by decide +kernel
theorem dX8_kept_0 : decode cX8_kept 0 = .ok (.iload_n 1, 1) := by decide +kernel
theorem dX8_kept_1 : decode cX8_kept 1 = .ok (.i2l, 1) := by decide +kernel
theorem dX8_kept_2 : decode cX8_kept 2 = .ok (.lconst 0, 1) := by decide +kernel
theorem dX8_kept_3 : decode cX8_kept 3 = .ok (.ldc2_w 81, 3) := by decide +kernel
theorem dX8_kept_6 : decode cX8_kept 6 = .ok (.invokestatic 83, 3) := by decide +kernel
theorem dX8_kept_9 : decode cX8_kept 9 = .ok (.ifCond .eq 19, 3) := by decide +kernel
theorem dX8_kept_12 : decode cX8_kept 12 = .ok (.iload_n 2, 1) := by decide +kernel
theorem dX8_kept_13 : decode cX8_kept 13 = .ok (.i2l, 1) := by decide +kernel
theorem dX8_kept_14 : decode cX8_kept 14 = .ok (.lconst 0, 1) := by decide +kernel
theorem dX8_kept_15 : decode cX8_kept 15 = .ok (.aload_n 0, 1) := by decide +kernel
theorem dX8_kept_16 : decode cX8_kept 16 = .ok (.getfield 78, 3) := by decide +kernel
theorem dX8_kept_19 : decode cX8_kept 19 = .ok (.iconst 1, 1) := by decide +kernel
theorem dX8_kept_20 : decode cX8_kept 20 = .ok (.isub, 1) := by decide +kernel
theorem dX8_kept_21 : decode cX8_kept 21 = .ok (.i2l, 1) := by decide +kernel
theorem dX8_kept_22 : decode cX8_kept 22 = .ok (.invokestatic 83, 3) := by decide +kernel
theorem dX8_kept_25 : decode cX8_kept 25 = .ok (.ifCond .ne 6, 3) := by decide +kernel
theorem dX8_kept_28 : decode cX8_kept 28 = .ok (.bipush (-2), 2) := by decide +kernel
theorem dX8_kept_30 : decode cX8_kept 30 = .ok (.ireturn, 1) := by decide +kernel
theorem dX8_kept_31 : decode cX8_kept 31 = .ok (.aload_n 0, 1) := by decide +kernel
theorem dX8_kept_32 : decode cX8_kept 32 = .ok (.getfield 96, 3) := by decide +kernel
theorem dX8_kept_35 : decode cX8_kept 35 = .ok (.ifCond .ne 6, 3) := by decide +kernel
theorem dX8_kept_38 : decode cX8_kept 38 = .ok (.bipush (-3), 2) := by decide +kernel
theorem dX8_kept_40 : decode cX8_kept 40 = .ok (.ireturn, 1) := by decide +kernel
theorem dX8_kept_41 : decode cX8_kept 41 = .ok (.aload_n 0, 1) := by decide +kernel
theorem dX8_kept_42 : decode cX8_kept 42 = .ok (.iload_n 1, 1) := by decide +kernel
theorem dX8_kept_43 : decode cX8_kept 43 = .ok (.invokevirtual 178, 3) := by decide +kernel
theorem dX8_kept_46 : decode cX8_kept 46 = .ok (.pop2, 1) := by decide +kernel
theorem dX8_kept_47 : decode cX8_kept 47 = .ok (.aload_n 0, 1) := by decide +kernel
theorem dX8_kept_48 : decode cX8_kept 48 = .ok (.getfield 47, 3) := by decide +kernel
theorem dX8_kept_51 : decode cX8_kept 51 = .ok (.iload_n 2, 1) := by decide +kernel
theorem dX8_kept_52 : decode cX8_kept 52 = .ok (.iaload, 1) := by decide +kernel
theorem dX8_kept_53 : decode cX8_kept 53 = .ok (.ireturn, 1) := by decide +kernel
theorem dX8_keeps_0 : decode cX8_keeps 0 = .ok (.iload_n 1, 1) := by decide +kernel
theorem dX8_keeps_1 : decode cX8_keeps 1 = .ok (.i2l, 1) := by decide +kernel
theorem dX8_keeps_2 : decode cX8_keeps 2 = .ok (.lconst 0, 1) := by decide +kernel
theorem dX8_keeps_3 : decode cX8_keeps 3 = .ok (.ldc2_w 99, 3) := by decide +kernel
theorem dX8_keeps_6 : decode cX8_keeps 6 = .ok (.invokestatic 83, 3) := by decide +kernel
theorem dX8_keeps_9 : decode cX8_keeps 9 = .ok (.ifCond .eq 10, 3) := by decide +kernel
theorem dX8_keeps_12 : decode cX8_keeps 12 = .ok (.iload_n 2, 1) := by decide +kernel
theorem dX8_keeps_13 : decode cX8_keeps 13 = .ok (.invokestatic 138, 3) := by decide +kernel
theorem dX8_keeps_16 : decode cX8_keeps 16 = .ok (.ifCond .ne 7, 3) := by decide +kernel
theorem dX8_keeps_19 : decode cX8_keeps 19 = .ok (.ldc2_w 141, 3) := by decide +kernel
theorem dX8_keeps_22 : decode cX8_keeps 22 = .ok (.lreturn, 1) := by decide +kernel
theorem dX8_keeps_23 : decode cX8_keeps 23 = .ok (.aload_n 0, 1) := by decide +kernel
theorem dX8_keeps_24 : decode cX8_keeps 24 = .ok (.getfield 96, 3) := by decide +kernel
theorem dX8_keeps_27 : decode cX8_keeps 27 = .ok (.ifCond .ne 7, 3) := by decide +kernel
theorem dX8_keeps_30 : decode cX8_keeps 30 = .ok (.ldc2_w 143, 3) := by decide +kernel
theorem dX8_keeps_33 : decode cX8_keeps 33 = .ok (.lreturn, 1) := by decide +kernel
theorem dX8_keeps_34 : decode cX8_keeps 34 = .ok (.lconst 0, 1) := by decide +kernel
theorem dX8_keeps_35 : decode cX8_keeps 35 = .ok (.lstore_n 3, 1) := by decide +kernel
theorem dX8_keeps_36 : decode cX8_keeps 36 = .ok (.iload_n 1, 1) := by decide +kernel
theorem dX8_keeps_37 : decode cX8_keeps 37 = .ok (.iconst 3, 1) := by decide +kernel
theorem dX8_keeps_38 : decode cX8_keeps 38 = .ok (.if_icmp .ge 12, 3) := by decide +kernel
theorem dX8_keeps_41 : decode cX8_keeps 41 = .ok (.aload_n 0, 1) := by decide +kernel
theorem dX8_keeps_42 : decode cX8_keeps 42 = .ok (.iload_n 1, 1) := by decide +kernel
theorem dX8_keeps_43 : decode cX8_keeps 43 = .ok (.invokevirtual 178, 3) := by decide +kernel
theorem dX8_keeps_46 : decode cX8_keeps 46 = .ok (.lstore_n 3, 1) := by decide +kernel
theorem dX8_keeps_47 : decode cX8_keeps 47 = .ok (.goto 53, 3) := by decide +kernel
theorem dX8_keeps_50 : decode cX8_keeps 50 = .ok (.iload_n 1, 1) := by decide +kernel
theorem dX8_keeps_51 : decode cX8_keeps 51 = .ok (.iconst 3, 1) := by decide +kernel
theorem dX8_keeps_52 : decode cX8_keeps 52 = .ok (.if_icmp .ne 30, 3) := by decide +kernel
theorem dX8_keeps_55 : decode cX8_keeps 55 = .ok (.aload_n 0, 1) := by decide +kernel
theorem dX8_keeps_56 : decode cX8_keeps 56 = .ok (.invokevirtual 158, 3) := by decide +kernel
theorem dX8_keeps_59 : decode cX8_keeps 59 = .ok (.aload_n 0, 1) := by decide +kernel
theorem dX8_keeps_60 : decode cX8_keeps 60 = .ok (.getfield 32, 3) := by decide +kernel
theorem dX8_keeps_63 : decode cX8_keeps 63 = .ok (.aload_n 0, 1) := by decide +kernel
theorem dX8_keeps_64 : decode cX8_keeps 64 = .ok (.getfield 75, 3) := by decide +kernel
theorem dX8_keeps_67 : decode cX8_keeps 67 = .ok (.laload, 1) := by decide +kernel
theorem dX8_keeps_68 : decode cX8_keeps 68 = .ok (.lstore 5, 2) := by decide +kernel
theorem dX8_keeps_70 : decode cX8_keeps 70 = .ok (.lload 5, 2) := by decide +kernel
theorem dX8_keeps_72 : decode cX8_keeps 72 = .ok (.aload_n 0, 1) := by decide +kernel
theorem dX8_keeps_73 : decode cX8_keeps 73 = .ok (.iconst 0, 1) := by decide +kernel
theorem dX8_keeps_74 : decode cX8_keeps 74 = .ok (.invokevirtual 178, 3) := by decide +kernel
theorem dX8_keeps_77 : decode cX8_keeps 77 = .ok (.lsub, 1) := by decide +kernel
theorem dX8_keeps_78 : decode cX8_keeps 78 = .ok (.lstore_n 3, 1) := by decide +kernel
theorem dX8_keeps_79 : decode cX8_keeps 79 = .ok (.goto 21, 3) := by decide +kernel
theorem dX8_keeps_82 : decode cX8_keeps 82 = .ok (.aload_n 0, 1) := by decide +kernel
theorem dX8_keeps_83 : decode cX8_keeps 83 = .ok (.invokevirtual 145, 3) := by decide +kernel
theorem dX8_keeps_86 : decode cX8_keeps 86 = .ok (.aload_n 0, 1) := by decide +kernel
theorem dX8_keeps_87 : decode cX8_keeps 87 = .ok (.invokevirtual 172, 3) := by decide +kernel
theorem dX8_keeps_90 : decode cX8_keeps 90 = .ok (.aload_n 0, 1) := by decide +kernel
theorem dX8_keeps_91 : decode cX8_keeps 91 = .ok (.getfield 28, 3) := by decide +kernel
theorem dX8_keeps_94 : decode cX8_keeps 94 = .ok (.aload_n 0, 1) := by decide +kernel
theorem dX8_keeps_95 : decode cX8_keeps 95 = .ok (.getfield 75, 3) := by decide +kernel
theorem dX8_keeps_98 : decode cX8_keeps 98 = .ok (.laload, 1) := by decide +kernel
theorem dX8_keeps_99 : decode cX8_keeps 99 = .ok (.lstore_n 3, 1) := by decide +kernel
theorem dX8_keeps_100 : decode cX8_keeps 100 = .ok (.lload_n 3, 1) := by decide +kernel
theorem dX8_keeps_101 : decode cX8_keeps 101 = .ok (.aload_n 0, 1) := by decide +kernel
theorem dX8_keeps_102 : decode cX8_keeps 102 = .ok (.getfield 103, 3) := by decide +kernel
theorem dX8_keeps_105 : decode cX8_keeps 105 = .ok (.aload_n 0, 1) := by decide +kernel
theorem dX8_keeps_106 : decode cX8_keeps 106 = .ok (.getfield 78, 3) := by decide +kernel
theorem dX8_keeps_109 : decode cX8_keeps 109 = .ok (.imul, 1) := by decide +kernel
theorem dX8_keeps_110 : decode cX8_keeps 110 = .ok (.invokestatic 161, 3) := by decide +kernel
theorem dX8_keeps_113 : decode cX8_keeps 113 = .ok (.iload_n 2, 1) := by decide +kernel
theorem dX8_keeps_114 : decode cX8_keeps 114 = .ok (.invokestatic 151, 3) := by decide +kernel
theorem dX8_keeps_117 : decode cX8_keeps 117 = .ok (.lreturn, 1) := by decide +kernel
theorem dX8_rather_0 : decode cX8_rather 0 = .ok (.aload_n 0, 1) := by decide +kernel
theorem dX8_rather_1 : decode cX8_rather 1 = .ok (.getfield 96, 3) := by decide +kernel
theorem dX8_rather_4 : decode cX8_rather 4 = .ok (.ifCond .ne 6, 3) := by decide +kernel
theorem dX8_rather_7 : decode cX8_rather 7 = .ok (.bipush (-3), 2) := by decide +kernel
theorem dX8_rather_9 : decode cX8_rather 9 = .ok (.ireturn, 1) := by decide +kernel
theorem dX8_rather_10 : decode cX8_rather 10 = .ok (.aload_n 0, 1) := by decide +kernel
theorem dX8_rather_11 : decode cX8_rather 11 = .ok (.invokevirtual 158, 3) := by decide +kernel
theorem dX8_rather_14 : decode cX8_rather 14 = .ok (.aload_n 0, 1) := by decide +kernel
theorem dX8_rather_15 : decode cX8_rather 15 = .ok (.iconst 0, 1) := by decide +kernel
theorem dX8_rather_16 : decode cX8_rather 16 = .ok (.invokevirtual 178, 3) := by decide +kernel
theorem dX8_rather_19 : decode cX8_rather 19 = .ok (.pop2, 1) := by decide +kernel
theorem dX8_rather_20 : decode cX8_rather 20 = .ok (.iconst 0, 1) := by decide +kernel
theorem dX8_rather_21 : decode cX8_rather 21 = .ok (.istore_n 1, 1) := by decide +kernel
theorem dX8_rather_22 : decode cX8_rather 22 = .ok (.iload_n 1, 1) := by decide +kernel
theorem dX8_rather_23 : decode cX8_rather 23 = .ok (.aload_n 0, 1) := by decide +kernel
theorem dX8_rather_24 : decode cX8_rather 24 = .ok (.getfield 78, 3) := by decide +kernel
theorem dX8_rather_27 : decode cX8_rather 27 = .ok (.if_icmp .ge 21, 3) := by decide +kernel
theorem dX8_rather_30 : decode cX8_rather 30 = .ok (.aload_n 0, 1) := by decide +kernel
theorem dX8_rather_31 : decode cX8_rather 31 = .ok (.getfield 41, 3) := by decide +kernel
theorem dX8_rather_34 : decode cX8_rather 34 = .ok (.iload_n 1, 1) := by decide +kernel
theorem dX8_rather_35 : decode cX8_rather 35 = .ok (.aload_n 0, 1) := by decide +kernel
theorem dX8_rather_36 : decode cX8_rather 36 = .ok (.getfield 47, 3) := by decide +kernel
theorem dX8_rather_39 : decode cX8_rather 39 = .ok (.iload_n 1, 1) := by decide +kernel
theorem dX8_rather_40 : decode cX8_rather 40 = .ok (.iaload, 1) := by decide +kernel
theorem dX8_rather_41 : decode cX8_rather 41 = .ok (.iastore, 1) := by decide +kernel
theorem dX8_rather_42 : decode cX8_rather 42 = .ok (.iinc 1 1, 3) := by decide +kernel
theorem dX8_rather_45 : decode cX8_rather 45 = .ok (.goto (-23), 3) := by decide +kernel
theorem dX8_rather_48 : decode cX8_rather 48 = .ok (.iconst 0, 1) := by decide +kernel
theorem dX8_rather_49 : decode cX8_rather 49 = .ok (.istore_n 1, 1) := by decide +kernel
theorem dX8_rather_50 : decode cX8_rather 50 = .ok (.iload_n 1, 1) := by decide +kernel
theorem dX8_rather_51 : decode cX8_rather 51 = .ok (.aload_n 0, 1) := by decide +kernel
theorem dX8_rather_52 : decode cX8_rather 52 = .ok (.getfield 78, 3) := by decide +kernel
theorem dX8_rather_55 : decode cX8_rather 55 = .ok (.if_icmp .ge 74, 3) := by decide +kernel
theorem dX8_rather_58 : decode cX8_rather 58 = .ok (.aload_n 0, 1) := by decide +kernel
theorem dX8_rather_59 : decode cX8_rather 59 = .ok (.iload_n 1, 1) := by decide +kernel
theorem dX8_rather_60 : decode cX8_rather 60 = .ok (.invokevirtual 155, 3) := by decide +kernel
theorem dX8_rather_63 : decode cX8_rather 63 = .ok (.aload_n 0, 1) := by decide +kernel
theorem dX8_rather_64 : decode cX8_rather 64 = .ok (.iload_n 1, 1) := by decide +kernel
theorem dX8_rather_65 : decode cX8_rather 65 = .ok (.invokevirtual 148, 3) := by decide +kernel
theorem dX8_rather_68 : decode cX8_rather 68 = .ok (.iconst 0, 1) := by decide +kernel
theorem dX8_rather_69 : decode cX8_rather 69 = .ok (.istore_n 2, 1) := by decide +kernel
theorem dX8_rather_70 : decode cX8_rather 70 = .ok (.iload_n 2, 1) := by decide +kernel
theorem dX8_rather_71 : decode cX8_rather 71 = .ok (.aload_n 0, 1) := by decide +kernel
theorem dX8_rather_72 : decode cX8_rather 72 = .ok (.getfield 75, 3) := by decide +kernel
theorem dX8_rather_75 : decode cX8_rather 75 = .ok (.if_icmp .gt 48, 3) := by decide +kernel
theorem dX8_rather_78 : decode cX8_rather 78 = .ok (.aload_n 0, 1) := by decide +kernel
theorem dX8_rather_79 : decode cX8_rather 79 = .ok (.getfield 44, 3) := by decide +kernel
theorem dX8_rather_82 : decode cX8_rather 82 = .ok (.iload_n 2, 1) := by decide +kernel
theorem dX8_rather_83 : decode cX8_rather 83 = .ok (.laload, 1) := by decide +kernel
theorem dX8_rather_84 : decode cX8_rather 84 = .ok (.lconst 0, 1) := by decide +kernel
theorem dX8_rather_85 : decode cX8_rather 85 = .ok (.lcmp, 1) := by decide +kernel
theorem dX8_rather_86 : decode cX8_rather 86 = .ok (.ifCond .le 31, 3) := by decide +kernel
theorem dX8_rather_89 : decode cX8_rather 89 = .ok (.aload_n 0, 1) := by decide +kernel
theorem dX8_rather_90 : decode cX8_rather 90 = .ok (.getfield 32, 3) := by decide +kernel
theorem dX8_rather_93 : decode cX8_rather 93 = .ok (.bipush 13, 2) := by decide +kernel
theorem dX8_rather_95 : decode cX8_rather 95 = .ok (.iload_n 1, 1) := by decide +kernel
theorem dX8_rather_96 : decode cX8_rather 96 = .ok (.imul, 1) := by decide +kernel
theorem dX8_rather_97 : decode cX8_rather 97 = .ok (.iload_n 2, 1) := by decide +kernel
theorem dX8_rather_98 : decode cX8_rather 98 = .ok (.iadd, 1) := by decide +kernel
theorem dX8_rather_99 : decode cX8_rather 99 = .ok (.laload, 1) := by decide +kernel
theorem dX8_rather_100 : decode cX8_rather 100 = .ok (.aload_n 0, 1) := by decide +kernel
theorem dX8_rather_101 : decode cX8_rather 101 = .ok (.getfield 28, 3) := by decide +kernel
theorem dX8_rather_104 : decode cX8_rather 104 = .ok (.iload_n 2, 1) := by decide +kernel
theorem dX8_rather_105 : decode cX8_rather 105 = .ok (.laload, 1) := by decide +kernel
theorem dX8_rather_106 : decode cX8_rather 106 = .ok (.lcmp, 1) := by decide +kernel
theorem dX8_rather_107 : decode cX8_rather 107 = .ok (.ifCond .le 10, 3) := by decide +kernel
theorem dX8_rather_110 : decode cX8_rather 110 = .ok (.bipush 100, 2) := by decide +kernel
theorem dX8_rather_112 : decode cX8_rather 112 = .ok (.iload_n 1, 1) := by decide +kernel
theorem dX8_rather_113 : decode cX8_rather 113 = .ok (.imul, 1) := by decide +kernel
theorem dX8_rather_114 : decode cX8_rather 114 = .ok (.iload_n 2, 1) := by decide +kernel
theorem dX8_rather_115 : decode cX8_rather 115 = .ok (.iadd, 1) := by decide +kernel
theorem dX8_rather_116 : decode cX8_rather 116 = .ok (.ireturn, 1) := by decide +kernel
theorem dX8_rather_117 : decode cX8_rather 117 = .ok (.iinc 2 1, 3) := by decide +kernel
theorem dX8_rather_120 : decode cX8_rather 120 = .ok (.goto (-50), 3) := by decide +kernel
theorem dX8_rather_123 : decode cX8_rather 123 = .ok (.iinc 1 1, 3) := by decide +kernel
theorem dX8_rather_126 : decode cX8_rather 126 = .ok (.goto (-76), 3) := by decide +kernel
theorem dX8_rather_129 : decode cX8_rather 129 = .ok (.bipush (-6), 2) := by decide +kernel
theorem dX8_rather_131 : decode cX8_rather 131 = .ok (.ireturn, 1) := by decide +kernel
theorem dX8_picks_0 : decode cX8_picks 0 = .ok (.aload_n 0, 1) := by decide +kernel
theorem dX8_picks_1 : decode cX8_picks 1 = .ok (.iload_n 1, 1) := by decide +kernel
theorem dX8_picks_2 : decode cX8_picks 2 = .ok (.invokevirtual 106, 3) := by decide +kernel
theorem dX8_picks_5 : decode cX8_picks 5 = .ok (.ifCond .ne 5, 3) := by decide +kernel
theorem dX8_picks_8 : decode cX8_picks 8 = .ok (.iconst (-1), 1) := by decide +kernel
theorem dX8_picks_9 : decode cX8_picks 9 = .ok (.ireturn, 1) := by decide +kernel
theorem dX8_picks_10 : decode cX8_picks 10 = .ok (.iload_n 2, 1) := by decide +kernel
theorem dX8_picks_11 : decode cX8_picks 11 = .ok (.i2l, 1) := by decide +kernel
theorem dX8_picks_12 : decode cX8_picks 12 = .ok (.lconst 0, 1) := by decide +kernel
theorem dX8_picks_13 : decode cX8_picks 13 = .ok (.aload_n 0, 1) := by decide +kernel
theorem dX8_picks_14 : decode cX8_picks 14 = .ok (.getfield 78, 3) := by decide +kernel
theorem dX8_picks_17 : decode cX8_picks 17 = .ok (.iconst 1, 1) := by decide +kernel
theorem dX8_picks_18 : decode cX8_picks 18 = .ok (.isub, 1) := by decide +kernel
theorem dX8_picks_19 : decode cX8_picks 19 = .ok (.i2l, 1) := by decide +kernel
theorem dX8_picks_20 : decode cX8_picks 20 = .ok (.invokestatic 83, 3) := by decide +kernel
theorem dX8_picks_23 : decode cX8_picks 23 = .ok (.ifCond .ne 6, 3) := by decide +kernel
theorem dX8_picks_26 : decode cX8_picks 26 = .ok (.bipush (-2), 2) := by decide +kernel
theorem dX8_picks_28 : decode cX8_picks 28 = .ok (.ireturn, 1) := by decide +kernel
theorem dX8_picks_29 : decode cX8_picks 29 = .ok (.aload_n 0, 1) := by decide +kernel
theorem dX8_picks_30 : decode cX8_picks 30 = .ok (.getfield 96, 3) := by decide +kernel
theorem dX8_picks_33 : decode cX8_picks 33 = .ok (.ifCond .ne 6, 3) := by decide +kernel
theorem dX8_picks_36 : decode cX8_picks 36 = .ok (.bipush (-3), 2) := by decide +kernel
theorem dX8_picks_38 : decode cX8_picks 38 = .ok (.ireturn, 1) := by decide +kernel
theorem dX8_picks_39 : decode cX8_picks 39 = .ok (.aload_n 0, 1) := by decide +kernel
theorem dX8_picks_40 : decode cX8_picks 40 = .ok (.getfield 22, 3) := by decide +kernel
theorem dX8_picks_43 : decode cX8_picks 43 = .ok (.iload_n 1, 1) := by decide +kernel
theorem dX8_picks_44 : decode cX8_picks 44 = .ok (.iaload, 1) := by decide +kernel
theorem dX8_picks_45 : decode cX8_picks 45 = .ok (.ifCond .ge 6, 3) := by decide +kernel
theorem dX8_picks_48 : decode cX8_picks 48 = .ok (.bipush (-5), 2) := by decide +kernel
theorem dX8_picks_50 : decode cX8_picks 50 = .ok (.ireturn, 1) := by decide +kernel
theorem dX8_picks_51 : decode cX8_picks 51 = .ok (.aload_n 0, 1) := by decide +kernel
theorem dX8_picks_52 : decode cX8_picks 52 = .ok (.invokevirtual 145, 3) := by decide +kernel
theorem dX8_picks_55 : decode cX8_picks 55 = .ok (.aload_n 0, 1) := by decide +kernel
theorem dX8_picks_56 : decode cX8_picks 56 = .ok (.iload_n 1, 1) := by decide +kernel
theorem dX8_picks_57 : decode cX8_picks 57 = .ok (.iload_n 2, 1) := by decide +kernel
theorem dX8_picks_58 : decode cX8_picks 58 = .ok (.invokevirtual 165, 3) := by decide +kernel
theorem dX8_picks_61 : decode cX8_picks 61 = .ok (.ireturn, 1) := by decide +kernel
theorem dX8_made_0 : decode cX8_made 0 = .ok (.iload_n 1, 1) := by decide +kernel
theorem dX8_made_1 : decode cX8_made 1 = .ok (.i2l, 1) := by decide +kernel
theorem dX8_made_2 : decode cX8_made 2 = .ok (.lconst 0, 1) := by decide +kernel
theorem dX8_made_3 : decode cX8_made 3 = .ok (.ldc2_w 91, 3) := by decide +kernel
theorem dX8_made_6 : decode cX8_made 6 = .ok (.invokestatic 83, 3) := by decide +kernel
theorem dX8_made_9 : decode cX8_made 9 = .ok (.ifCond .ne 6, 3) := by decide +kernel
theorem dX8_made_12 : decode cX8_made 12 = .ok (.bipush (-2), 2) := by decide +kernel
theorem dX8_made_14 : decode cX8_made 14 = .ok (.ireturn, 1) := by decide +kernel
theorem dX8_made_15 : decode cX8_made 15 = .ok (.aload_n 0, 1) := by decide +kernel
theorem dX8_made_16 : decode cX8_made 16 = .ok (.getfield 96, 3) := by decide +kernel
theorem dX8_made_19 : decode cX8_made 19 = .ok (.ifCond .ne 6, 3) := by decide +kernel
theorem dX8_made_22 : decode cX8_made 22 = .ok (.bipush (-3), 2) := by decide +kernel
theorem dX8_made_24 : decode cX8_made 24 = .ok (.ireturn, 1) := by decide +kernel
theorem dX8_made_25 : decode cX8_made 25 = .ok (.aload_n 0, 1) := by decide +kernel
theorem dX8_made_26 : decode cX8_made 26 = .ok (.invokevirtual 158, 3) := by decide +kernel
theorem dX8_made_29 : decode cX8_made 29 = .ok (.aload_n 0, 1) := by decide +kernel
theorem dX8_made_30 : decode cX8_made 30 = .ok (.getfield 103, 3) := by decide +kernel
theorem dX8_made_33 : decode cX8_made 33 = .ok (.aload_n 0, 1) := by decide +kernel
theorem dX8_made_34 : decode cX8_made 34 = .ok (.getfield 78, 3) := by decide +kernel
theorem dX8_made_37 : decode cX8_made 37 = .ok (.imul, 1) := by decide +kernel
theorem dX8_made_38 : decode cX8_made 38 = .ok (.invokestatic 161, 3) := by decide +kernel
theorem dX8_made_41 : decode cX8_made 41 = .ok (.lstore_n 2, 1) := by decide +kernel
theorem dX8_made_42 : decode cX8_made 42 = .ok (.iconst 0, 1) := by decide +kernel
theorem dX8_made_43 : decode cX8_made 43 = .ok (.istore 4, 2) := by decide +kernel
theorem dX8_made_45 : decode cX8_made 45 = .ok (.iconst 1, 1) := by decide +kernel
theorem dX8_made_46 : decode cX8_made 46 = .ok (.istore 5, 2) := by decide +kernel
theorem dX8_made_48 : decode cX8_made 48 = .ok (.iload 5, 2) := by decide +kernel
theorem dX8_made_50 : decode cX8_made 50 = .ok (.bipush 12, 2) := by decide +kernel
theorem dX8_made_52 : decode cX8_made 52 = .ok (.if_icmp .gt 52, 3) := by decide +kernel
theorem dX8_made_55 : decode cX8_made 55 = .ok (.aload_n 0, 1) := by decide +kernel
theorem dX8_made_56 : decode cX8_made 56 = .ok (.getfield 32, 3) := by decide +kernel
theorem dX8_made_59 : decode cX8_made 59 = .ok (.iload 5, 2) := by decide +kernel
theorem dX8_made_61 : decode cX8_made 61 = .ok (.laload, 1) := by decide +kernel
theorem dX8_made_62 : decode cX8_made 62 = .ok (.iload_n 1, 1) := by decide +kernel
theorem dX8_made_63 : decode cX8_made 63 = .ok (.iload 5, 2) := by decide +kernel
theorem dX8_made_65 : decode cX8_made 65 = .ok (.imul, 1) := by decide +kernel
theorem dX8_made_66 : decode cX8_made 66 = .ok (.i2l, 1) := by decide +kernel
theorem dX8_made_67 : decode cX8_made 67 = .ok (.lload_n 2, 1) := by decide +kernel
theorem dX8_made_68 : decode cX8_made 68 = .ok (.lmul, 1) := by decide +kernel
theorem dX8_made_69 : decode cX8_made 69 = .ok (.lsub, 1) := by decide +kernel
theorem dX8_made_70 : decode cX8_made 70 = .ok (.aload_n 0, 1) := by decide +kernel
theorem dX8_made_71 : decode cX8_made 71 = .ok (.getfield 32, 3) := by decide +kernel
theorem dX8_made_74 : decode cX8_made 74 = .ok (.iload 4, 2) := by decide +kernel
theorem dX8_made_76 : decode cX8_made 76 = .ok (.laload, 1) := by decide +kernel
theorem dX8_made_77 : decode cX8_made 77 = .ok (.iload_n 1, 1) := by decide +kernel
theorem dX8_made_78 : decode cX8_made 78 = .ok (.iload 4, 2) := by decide +kernel
theorem dX8_made_80 : decode cX8_made 80 = .ok (.imul, 1) := by decide +kernel
theorem dX8_made_81 : decode cX8_made 81 = .ok (.i2l, 1) := by decide +kernel
theorem dX8_made_82 : decode cX8_made 82 = .ok (.lload_n 2, 1) := by decide +kernel
theorem dX8_made_83 : decode cX8_made 83 = .ok (.lmul, 1) := by decide +kernel
theorem dX8_made_84 : decode cX8_made 84 = .ok (.lsub, 1) := by decide +kernel
theorem dX8_made_85 : decode cX8_made 85 = .ok (.lcmp, 1) := by decide +kernel
theorem dX8_made_86 : decode cX8_made 86 = .ok (.ifCond .le 8, 3) := by decide +kernel
theorem dX8_made_89 : decode cX8_made 89 = .ok (.iload 5, 2) := by decide +kernel
theorem dX8_made_91 : decode cX8_made 91 = .ok (.goto 5, 3) := by decide +kernel
theorem dX8_made_94 : decode cX8_made 94 = .ok (.iload 4, 2) := by decide +kernel
theorem dX8_made_96 : decode cX8_made 96 = .ok (.istore 4, 2) := by decide +kernel
theorem dX8_made_98 : decode cX8_made 98 = .ok (.iinc 5 1, 3) := by decide +kernel
theorem dX8_made_101 : decode cX8_made 101 = .ok (.goto (-53), 3) := by decide +kernel
theorem dX8_made_104 : decode cX8_made 104 = .ok (.iload 4, 2) := by decide +kernel
theorem dX8_made_106 : decode cX8_made 106 = .ok (.ireturn, 1) := by decide +kernel
theorem dX8_say_0 : decode cX8_say 0 = .ok (.iload_n 1, 1) := by decide +kernel
theorem dX8_say_1 : decode cX8_say 1 = .ok (.i2l, 1) := by decide +kernel
theorem dX8_say_2 : decode cX8_say 2 = .ok (.ldc2_w 181, 3) := by decide +kernel
theorem dX8_say_5 : decode cX8_say 5 = .ok (.ldc2_w 183, 3) := by decide +kernel
theorem dX8_say_8 : decode cX8_say 8 = .ok (.invokestatic 83, 3) := by decide +kernel
theorem dX8_say_11 : decode cX8_say 11 = .ok (.ifCond .ne 6, 3) := by decide +kernel
theorem dX8_say_14 : decode cX8_say 14 = .ok (.bipush (-2), 2) := by decide +kernel
theorem dX8_say_16 : decode cX8_say 16 = .ok (.ireturn, 1) := by decide +kernel
theorem dX8_say_17 : decode cX8_say 17 = .ok (.aload_n 0, 1) := by decide +kernel
theorem dX8_say_18 : decode cX8_say 18 = .ok (.getfield 185, 3) := by decide +kernel
theorem dX8_say_21 : decode cX8_say 21 = .ok (.bipush 40, 2) := by decide +kernel
theorem dX8_say_23 : decode cX8_say 23 = .ok (.if_icmp .ne 6, 3) := by decide +kernel
theorem dX8_say_26 : decode cX8_say 26 = .ok (.bipush (-4), 2) := by decide +kernel
theorem dX8_say_28 : decode cX8_say 28 = .ok (.ireturn, 1) := by decide +kernel
theorem dX8_say_29 : decode cX8_say 29 = .ok (.aload_n 0, 1) := by decide +kernel
theorem dX8_say_30 : decode cX8_say 30 = .ok (.getfield 50, 3) := by decide +kernel
theorem dX8_say_33 : decode cX8_say 33 = .ok (.aload_n 0, 1) := by decide +kernel
theorem dX8_say_34 : decode cX8_say 34 = .ok (.getfield 185, 3) := by decide +kernel
theorem dX8_say_37 : decode cX8_say 37 = .ok (.iload_n 1, 1) := by decide +kernel
theorem dX8_say_38 : decode cX8_say 38 = .ok (.iastore, 1) := by decide +kernel
theorem dX8_say_39 : decode cX8_say 39 = .ok (.aload_n 0, 1) := by decide +kernel
theorem dX8_say_40 : decode cX8_say 40 = .ok (.dup, 1) := by decide +kernel
theorem dX8_say_41 : decode cX8_say 41 = .ok (.getfield 185, 3) := by decide +kernel
theorem dX8_say_44 : decode cX8_say 44 = .ok (.iconst 1, 1) := by decide +kernel
theorem dX8_say_45 : decode cX8_say 45 = .ok (.iadd, 1) := by decide +kernel
theorem dX8_say_46 : decode cX8_say 46 = .ok (.putfield 185, 3) := by decide +kernel
theorem dX8_say_49 : decode cX8_say 49 = .ok (.aload_n 0, 1) := by decide +kernel
theorem dX8_say_50 : decode cX8_say 50 = .ok (.getfield 185, 3) := by decide +kernel
theorem dX8_say_53 : decode cX8_say 53 = .ok (.ireturn, 1) := by decide +kernel
theorem dX8_wipe_0 : decode cX8_wipe 0 = .ok (.aload_n 0, 1) := by decide +kernel
theorem dX8_wipe_1 : decode cX8_wipe 1 = .ok (.getfield 185, 3) := by decide +kernel
theorem dX8_wipe_4 : decode cX8_wipe 4 = .ok (.istore_n 1, 1) := by decide +kernel
theorem dX8_wipe_5 : decode cX8_wipe 5 = .ok (.aload_n 0, 1) := by decide +kernel
theorem dX8_wipe_6 : decode cX8_wipe 6 = .ok (.iconst 0, 1) := by decide +kernel
theorem dX8_wipe_7 : decode cX8_wipe 7 = .ok (.putfield 185, 3) := by decide +kernel
theorem dX8_wipe_10 : decode cX8_wipe 10 = .ok (.iload_n 1, 1) := by decide +kernel
theorem dX8_wipe_11 : decode cX8_wipe 11 = .ok (.ireturn, 1) := by decide +kernel
theorem dX8_isHow_0 : decode cX8_isHow 0 = .ok (.iload_n 0, 1) := by decide +kernel
theorem dX8_isHow_1 : decode cX8_isHow 1 = .ok (.bipush 60, 2) := by decide +kernel
theorem dX8_isHow_3 : decode cX8_isHow 3 = .ok (.if_icmp .eq 15, 3) := by decide +kernel
theorem dX8_isHow_6 : decode cX8_isHow 6 = .ok (.iload_n 0, 1) := by decide +kernel
theorem dX8_isHow_7 : decode cX8_isHow 7 = .ok (.bipush 62, 2) := by decide +kernel
theorem dX8_isHow_9 : decode cX8_isHow 9 = .ok (.if_icmp .eq 9, 3) := by decide +kernel
theorem dX8_isHow_12 : decode cX8_isHow 12 = .ok (.iload_n 0, 1) := by decide +kernel
theorem dX8_isHow_13 : decode cX8_isHow 13 = .ok (.bipush 61, 2) := by decide +kernel
theorem dX8_isHow_15 : decode cX8_isHow 15 = .ok (.if_icmp .ne 7, 3) := by decide +kernel
theorem dX8_isHow_18 : decode cX8_isHow 18 = .ok (.iconst 1, 1) := by decide +kernel
theorem dX8_isHow_19 : decode cX8_isHow 19 = .ok (.goto 4, 3) := by decide +kernel
theorem dX8_isHow_22 : decode cX8_isHow 22 = .ok (.iconst 0, 1) := by decide +kernel
theorem dX8_isHow_23 : decode cX8_isHow 23 = .ok (.ireturn, 1) := by decide +kernel
theorem dX8_stepOf_0 : decode cX8_stepOf 0 = .ok (.iload_n 1, 1) := by decide +kernel
theorem dX8_stepOf_1 : decode cX8_stepOf 1 = .ok (.i2l, 1) := by decide +kernel
theorem dX8_stepOf_2 : decode cX8_stepOf 2 = .ok (.ldc2_w 188, 3) := by decide +kernel
theorem dX8_stepOf_5 : decode cX8_stepOf 5 = .ok (.ldc2_w 190, 3) := by decide +kernel
theorem dX8_stepOf_8 : decode cX8_stepOf 8 = .ok (.invokestatic 83, 3) := by decide +kernel
theorem dX8_stepOf_11 : decode cX8_stepOf 11 = .ok (.istore_n 2, 1) := by decide +kernel
theorem dX8_stepOf_12 : decode cX8_stepOf 12 = .ok (.iload_n 1, 1) := by decide +kernel
theorem dX8_stepOf_13 : decode cX8_stepOf 13 = .ok (.i2l, 1) := by decide +kernel
theorem dX8_stepOf_14 : decode cX8_stepOf 14 = .ok (.ldc2_w 188, 3) := by decide +kernel
theorem dX8_stepOf_17 : decode cX8_stepOf 17 = .ok (.ldc2_w 192, 3) := by decide +kernel
theorem dX8_stepOf_20 : decode cX8_stepOf 20 = .ok (.invokestatic 83, 3) := by decide +kernel
theorem dX8_stepOf_23 : decode cX8_stepOf 23 = .ok (.istore_n 3, 1) := by decide +kernel
theorem dX8_stepOf_24 : decode cX8_stepOf 24 = .ok (.iload_n 0, 1) := by decide +kernel
theorem dX8_stepOf_25 : decode cX8_stepOf 25 = .ok (.tableswitch 148 0 6 #[43, 70, 83, 93, 113, 125, 136], 43) := by decide +kernel
theorem dX8_stepOf_68 : decode cX8_stepOf 68 = .ok (.iload_n 1, 1) := by decide +kernel
theorem dX8_stepOf_69 : decode cX8_stepOf 69 = .ok (.bipush 108, 2) := by decide +kernel
theorem dX8_stepOf_71 : decode cX8_stepOf 71 = .ok (.if_icmp .eq 9, 3) := by decide +kernel
theorem dX8_stepOf_74 : decode cX8_stepOf 74 = .ok (.iload_n 1, 1) := by decide +kernel
theorem dX8_stepOf_75 : decode cX8_stepOf 75 = .ok (.bipush 100, 2) := by decide +kernel
theorem dX8_stepOf_77 : decode cX8_stepOf 77 = .ok (.if_icmp .ne 7, 3) := by decide +kernel
theorem dX8_stepOf_80 : decode cX8_stepOf 80 = .ok (.iconst 1, 1) := by decide +kernel
theorem dX8_stepOf_81 : decode cX8_stepOf 81 = .ok (.goto 13, 3) := by decide +kernel
theorem dX8_stepOf_84 : decode cX8_stepOf 84 = .ok (.iload_n 3, 1) := by decide +kernel
theorem dX8_stepOf_85 : decode cX8_stepOf 85 = .ok (.ifCond .eq 8, 3) := by decide +kernel
theorem dX8_stepOf_88 : decode cX8_stepOf 88 = .ok (.bipush 7, 2) := by decide +kernel
theorem dX8_stepOf_90 : decode cX8_stepOf 90 = .ok (.goto 4, 3) := by decide +kernel
theorem dX8_stepOf_93 : decode cX8_stepOf 93 = .ok (.iconst (-1), 1) := by decide +kernel
theorem dX8_stepOf_94 : decode cX8_stepOf 94 = .ok (.ireturn, 1) := by decide +kernel
theorem dX8_stepOf_95 : decode cX8_stepOf 95 = .ok (.iload_n 1, 1) := by decide +kernel
theorem dX8_stepOf_96 : decode cX8_stepOf 96 = .ok (.invokestatic 194, 3) := by decide +kernel
theorem dX8_stepOf_99 : decode cX8_stepOf 99 = .ok (.ifCond .eq 7, 3) := by decide +kernel
theorem dX8_stepOf_102 : decode cX8_stepOf 102 = .ok (.iconst 2, 1) := by decide +kernel
theorem dX8_stepOf_103 : decode cX8_stepOf 103 = .ok (.goto 4, 3) := by decide +kernel
theorem dX8_stepOf_106 : decode cX8_stepOf 106 = .ok (.iconst (-1), 1) := by decide +kernel
theorem dX8_stepOf_107 : decode cX8_stepOf 107 = .ok (.ireturn, 1) := by decide +kernel
theorem dX8_stepOf_108 : decode cX8_stepOf 108 = .ok (.iload_n 2, 1) := by decide +kernel
theorem dX8_stepOf_109 : decode cX8_stepOf 109 = .ok (.ifCond .eq 7, 3) := by decide +kernel
theorem dX8_stepOf_112 : decode cX8_stepOf 112 = .ok (.iconst 3, 1) := by decide +kernel
theorem dX8_stepOf_113 : decode cX8_stepOf 113 = .ok (.goto 4, 3) := by decide +kernel
theorem dX8_stepOf_116 : decode cX8_stepOf 116 = .ok (.iconst (-1), 1) := by decide +kernel
theorem dX8_stepOf_117 : decode cX8_stepOf 117 = .ok (.ireturn, 1) := by decide +kernel
theorem dX8_stepOf_118 : decode cX8_stepOf 118 = .ok (.iload_n 2, 1) := by decide +kernel
theorem dX8_stepOf_119 : decode cX8_stepOf 119 = .ok (.ifCond .eq 7, 3) := by decide +kernel
theorem dX8_stepOf_122 : decode cX8_stepOf 122 = .ok (.iconst 4, 1) := by decide +kernel
theorem dX8_stepOf_123 : decode cX8_stepOf 123 = .ok (.goto 14, 3) := by decide +kernel
theorem dX8_stepOf_126 : decode cX8_stepOf 126 = .ok (.iload_n 1, 1) := by decide +kernel
theorem dX8_stepOf_127 : decode cX8_stepOf 127 = .ok (.bipush 58, 2) := by decide +kernel
theorem dX8_stepOf_129 : decode cX8_stepOf 129 = .ok (.if_icmp .ne 7, 3) := by decide +kernel
theorem dX8_stepOf_132 : decode cX8_stepOf 132 = .ok (.iconst 5, 1) := by decide +kernel
theorem dX8_stepOf_133 : decode cX8_stepOf 133 = .ok (.goto 4, 3) := by decide +kernel
theorem dX8_stepOf_136 : decode cX8_stepOf 136 = .ok (.iconst (-1), 1) := by decide +kernel
theorem dX8_stepOf_137 : decode cX8_stepOf 137 = .ok (.ireturn, 1) := by decide +kernel
theorem dX8_stepOf_138 : decode cX8_stepOf 138 = .ok (.iload_n 1, 1) := by decide +kernel
theorem dX8_stepOf_139 : decode cX8_stepOf 139 = .ok (.bipush 58, 2) := by decide +kernel
theorem dX8_stepOf_141 : decode cX8_stepOf 141 = .ok (.if_icmp .ne 7, 3) := by decide +kernel
theorem dX8_stepOf_144 : decode cX8_stepOf 144 = .ok (.iconst 5, 1) := by decide +kernel
theorem dX8_stepOf_145 : decode cX8_stepOf 145 = .ok (.goto 4, 3) := by decide +kernel
theorem dX8_stepOf_148 : decode cX8_stepOf 148 = .ok (.iconst (-1), 1) := by decide +kernel
theorem dX8_stepOf_149 : decode cX8_stepOf 149 = .ok (.ireturn, 1) := by decide +kernel
theorem dX8_stepOf_150 : decode cX8_stepOf 150 = .ok (.iload_n 3, 1) := by decide +kernel
theorem dX8_stepOf_151 : decode cX8_stepOf 151 = .ok (.ifCond .eq 8, 3) := by decide +kernel
theorem dX8_stepOf_154 : decode cX8_stepOf 154 = .ok (.bipush 6, 2) := by decide +kernel
theorem dX8_stepOf_156 : decode cX8_stepOf 156 = .ok (.goto 4, 3) := by decide +kernel
theorem dX8_stepOf_159 : decode cX8_stepOf 159 = .ok (.iconst (-1), 1) := by decide +kernel
theorem dX8_stepOf_160 : decode cX8_stepOf 160 = .ok (.ireturn, 1) := by decide +kernel
theorem dX8_stepOf_161 : decode cX8_stepOf 161 = .ok (.iload_n 1, 1) := by decide +kernel
theorem dX8_stepOf_162 : decode cX8_stepOf 162 = .ok (.bipush 59, 2) := by decide +kernel
theorem dX8_stepOf_164 : decode cX8_stepOf 164 = .ok (.if_icmp .ne 7, 3) := by decide +kernel
theorem dX8_stepOf_167 : decode cX8_stepOf 167 = .ok (.iconst 0, 1) := by decide +kernel
theorem dX8_stepOf_168 : decode cX8_stepOf 168 = .ok (.goto 4, 3) := by decide +kernel
theorem dX8_stepOf_171 : decode cX8_stepOf 171 = .ok (.iconst (-1), 1) := by decide +kernel
theorem dX8_stepOf_172 : decode cX8_stepOf 172 = .ok (.ireturn, 1) := by decide +kernel
theorem dX8_stepOf_173 : decode cX8_stepOf 173 = .ok (.iconst (-1), 1) := by decide +kernel
theorem dX8_stepOf_174 : decode cX8_stepOf 174 = .ok (.ireturn, 1) := by decide +kernel
theorem dX8_fault_0 : decode cX8_fault 0 = .ok (.iconst 0, 1) := by decide +kernel
theorem dX8_fault_1 : decode cX8_fault 1 = .ok (.istore_n 1, 1) := by decide +kernel
theorem dX8_fault_2 : decode cX8_fault 2 = .ok (.iconst 0, 1) := by decide +kernel
theorem dX8_fault_3 : decode cX8_fault 3 = .ok (.istore_n 2, 1) := by decide +kernel
theorem dX8_fault_4 : decode cX8_fault 4 = .ok (.iload_n 2, 1) := by decide +kernel
theorem dX8_fault_5 : decode cX8_fault 5 = .ok (.aload_n 0, 1) := by decide +kernel
theorem dX8_fault_6 : decode cX8_fault 6 = .ok (.getfield 185, 3) := by decide +kernel
theorem dX8_fault_9 : decode cX8_fault 9 = .ok (.if_icmp .ge 26, 3) := by decide +kernel
theorem dX8_fault_12 : decode cX8_fault 12 = .ok (.iload_n 1, 1) := by decide +kernel
theorem dX8_fault_13 : decode cX8_fault 13 = .ok (.aload_n 0, 1) := by decide +kernel
theorem dX8_fault_14 : decode cX8_fault 14 = .ok (.getfield 50, 3) := by decide +kernel
theorem dX8_fault_17 : decode cX8_fault 17 = .ok (.iload_n 2, 1) := by decide +kernel
theorem dX8_fault_18 : decode cX8_fault 18 = .ok (.iaload, 1) := by decide +kernel
theorem dX8_fault_19 : decode cX8_fault 19 = .ok (.invokestatic 197, 3) := by decide +kernel
theorem dX8_fault_22 : decode cX8_fault 22 = .ok (.istore_n 1, 1) := by decide +kernel
theorem dX8_fault_23 : decode cX8_fault 23 = .ok (.iload_n 1, 1) := by decide +kernel
theorem dX8_fault_24 : decode cX8_fault 24 = .ok (.ifCond .ge 5, 3) := by decide +kernel
theorem dX8_fault_27 : decode cX8_fault 27 = .ok (.iload_n 2, 1) := by decide +kernel
theorem dX8_fault_28 : decode cX8_fault 28 = .ok (.ireturn, 1) := by decide +kernel
theorem dX8_fault_29 : decode cX8_fault 29 = .ok (.iinc 2 1, 3) := by decide +kernel
theorem dX8_fault_32 : decode cX8_fault 32 = .ok (.goto (-28), 3) := by decide +kernel
theorem dX8_fault_35 : decode cX8_fault 35 = .ok (.iload_n 1, 1) := by decide +kernel
theorem dX8_fault_36 : decode cX8_fault 36 = .ok (.bipush 7, 2) := by decide +kernel
theorem dX8_fault_38 : decode cX8_fault 38 = .ok (.if_icmp .ne 8, 3) := by decide +kernel
theorem dX8_fault_41 : decode cX8_fault 41 = .ok (.bipush (-6), 2) := by decide +kernel
theorem dX8_fault_43 : decode cX8_fault 43 = .ok (.goto 7, 3) := by decide +kernel
theorem dX8_fault_46 : decode cX8_fault 46 = .ok (.aload_n 0, 1) := by decide +kernel
theorem dX8_fault_47 : decode cX8_fault 47 = .ok (.getfield 185, 3) := by decide +kernel
theorem dX8_fault_50 : decode cX8_fault 50 = .ok (.ireturn, 1) := by decide +kernel
theorem dX8_rule_0 : decode cX8_rule 0 = .ok (.aload_n 0, 1) := by decide +kernel
theorem dX8_rule_1 : decode cX8_rule 1 = .ok (.invokevirtual 200, 3) := by decide +kernel
theorem dX8_rule_4 : decode cX8_rule 4 = .ok (.ifCond .lt 6, 3) := by decide +kernel
theorem dX8_rule_7 : decode cX8_rule 7 = .ok (.bipush (-5), 2) := by decide +kernel
theorem dX8_rule_9 : decode cX8_rule 9 = .ok (.ireturn, 1) := by decide +kernel
theorem dX8_rule_10 : decode cX8_rule 10 = .ok (.aload_n 0, 1) := by decide +kernel
theorem dX8_rule_11 : decode cX8_rule 11 = .ok (.iconst 0, 1) := by decide +kernel
theorem dX8_rule_12 : decode cX8_rule 12 = .ok (.putfield 204, 3) := by decide +kernel
theorem dX8_rule_15 : decode cX8_rule 15 = .ok (.iconst 0, 1) := by decide +kernel
theorem dX8_rule_16 : decode cX8_rule 16 = .ok (.istore_n 1, 1) := by decide +kernel
theorem dX8_rule_17 : decode cX8_rule 17 = .ok (.iconst 0, 1) := by decide +kernel
theorem dX8_rule_18 : decode cX8_rule 18 = .ok (.istore_n 2, 1) := by decide +kernel
theorem dX8_rule_19 : decode cX8_rule 19 = .ok (.iload_n 2, 1) := by decide +kernel
theorem dX8_rule_20 : decode cX8_rule 20 = .ok (.aload_n 0, 1) := by decide +kernel
theorem dX8_rule_21 : decode cX8_rule 21 = .ok (.getfield 185, 3) := by decide +kernel
theorem dX8_rule_24 : decode cX8_rule 24 = .ok (.if_icmp .ge 125, 3) := by decide +kernel
theorem dX8_rule_27 : decode cX8_rule 27 = .ok (.aload_n 0, 1) := by decide +kernel
theorem dX8_rule_28 : decode cX8_rule 28 = .ok (.getfield 50, 3) := by decide +kernel
theorem dX8_rule_31 : decode cX8_rule 31 = .ok (.iload_n 2, 1) := by decide +kernel
theorem dX8_rule_32 : decode cX8_rule 32 = .ok (.iaload, 1) := by decide +kernel
theorem dX8_rule_33 : decode cX8_rule 33 = .ok (.istore_n 3, 1) := by decide +kernel
theorem dX8_rule_34 : decode cX8_rule 34 = .ok (.iload_n 3, 1) := by decide +kernel
theorem dX8_rule_35 : decode cX8_rule 35 = .ok (.i2l, 1) := by decide +kernel
theorem dX8_rule_36 : decode cX8_rule 36 = .ok (.ldc2_w 188, 3) := by decide +kernel
theorem dX8_rule_39 : decode cX8_rule 39 = .ok (.ldc2_w 190, 3) := by decide +kernel
theorem dX8_rule_42 : decode cX8_rule 42 = .ok (.invokestatic 83, 3) := by decide +kernel
theorem dX8_rule_45 : decode cX8_rule 45 = .ok (.ifCond .eq 16, 3) := by decide +kernel
theorem dX8_rule_48 : decode cX8_rule 48 = .ok (.bipush 10, 2) := by decide +kernel
theorem dX8_rule_50 : decode cX8_rule 50 = .ok (.iload_n 1, 1) := by decide +kernel
theorem dX8_rule_51 : decode cX8_rule 51 = .ok (.imul, 1) := by decide +kernel
theorem dX8_rule_52 : decode cX8_rule 52 = .ok (.iload_n 3, 1) := by decide +kernel
theorem dX8_rule_53 : decode cX8_rule 53 = .ok (.iadd, 1) := by decide +kernel
theorem dX8_rule_54 : decode cX8_rule 54 = .ok (.bipush 48, 2) := by decide +kernel
theorem dX8_rule_56 : decode cX8_rule 56 = .ok (.isub, 1) := by decide +kernel
theorem dX8_rule_57 : decode cX8_rule 57 = .ok (.istore_n 1, 1) := by decide +kernel
theorem dX8_rule_58 : decode cX8_rule 58 = .ok (.goto 85, 3) := by decide +kernel
theorem dX8_rule_61 : decode cX8_rule 61 = .ok (.iload_n 3, 1) := by decide +kernel
theorem dX8_rule_62 : decode cX8_rule 62 = .ok (.bipush 58, 2) := by decide +kernel
theorem dX8_rule_64 : decode cX8_rule 64 = .ok (.if_icmp .ne 18, 3) := by decide +kernel
theorem dX8_rule_67 : decode cX8_rule 67 = .ok (.aload_n 0, 1) := by decide +kernel
theorem dX8_rule_68 : decode cX8_rule 68 = .ok (.getfield 59, 3) := by decide +kernel
theorem dX8_rule_71 : decode cX8_rule 71 = .ok (.aload_n 0, 1) := by decide +kernel
theorem dX8_rule_72 : decode cX8_rule 72 = .ok (.getfield 204, 3) := by decide +kernel
theorem dX8_rule_75 : decode cX8_rule 75 = .ok (.iload_n 1, 1) := by decide +kernel
theorem dX8_rule_76 : decode cX8_rule 76 = .ok (.iastore, 1) := by decide +kernel
theorem dX8_rule_77 : decode cX8_rule 77 = .ok (.iconst 0, 1) := by decide +kernel
theorem dX8_rule_78 : decode cX8_rule 78 = .ok (.istore_n 1, 1) := by decide +kernel
theorem dX8_rule_79 : decode cX8_rule 79 = .ok (.goto 64, 3) := by decide +kernel
theorem dX8_rule_82 : decode cX8_rule 82 = .ok (.iload_n 3, 1) := by decide +kernel
theorem dX8_rule_83 : decode cX8_rule 83 = .ok (.bipush 59, 2) := by decide +kernel
theorem dX8_rule_85 : decode cX8_rule 85 = .ok (.if_icmp .ne 28, 3) := by decide +kernel
theorem dX8_rule_88 : decode cX8_rule 88 = .ok (.aload_n 0, 1) := by decide +kernel
theorem dX8_rule_89 : decode cX8_rule 89 = .ok (.getfield 62, 3) := by decide +kernel
theorem dX8_rule_92 : decode cX8_rule 92 = .ok (.aload_n 0, 1) := by decide +kernel
theorem dX8_rule_93 : decode cX8_rule 93 = .ok (.getfield 204, 3) := by decide +kernel
theorem dX8_rule_96 : decode cX8_rule 96 = .ok (.iload_n 1, 1) := by decide +kernel
theorem dX8_rule_97 : decode cX8_rule 97 = .ok (.iastore, 1) := by decide +kernel
theorem dX8_rule_98 : decode cX8_rule 98 = .ok (.aload_n 0, 1) := by decide +kernel
theorem dX8_rule_99 : decode cX8_rule 99 = .ok (.dup, 1) := by decide +kernel
theorem dX8_rule_100 : decode cX8_rule 100 = .ok (.getfield 204, 3) := by decide +kernel
theorem dX8_rule_103 : decode cX8_rule 103 = .ok (.iconst 1, 1) := by decide +kernel
theorem dX8_rule_104 : decode cX8_rule 104 = .ok (.iadd, 1) := by decide +kernel
theorem dX8_rule_105 : decode cX8_rule 105 = .ok (.putfield 204, 3) := by decide +kernel
theorem dX8_rule_108 : decode cX8_rule 108 = .ok (.iconst 0, 1) := by decide +kernel
theorem dX8_rule_109 : decode cX8_rule 109 = .ok (.istore_n 1, 1) := by decide +kernel
theorem dX8_rule_110 : decode cX8_rule 110 = .ok (.goto 33, 3) := by decide +kernel
theorem dX8_rule_113 : decode cX8_rule 113 = .ok (.iload_n 3, 1) := by decide +kernel
theorem dX8_rule_114 : decode cX8_rule 114 = .ok (.invokestatic 194, 3) := by decide +kernel
theorem dX8_rule_117 : decode cX8_rule 117 = .ok (.ifCond .eq 16, 3) := by decide +kernel
theorem dX8_rule_120 : decode cX8_rule 120 = .ok (.aload_n 0, 1) := by decide +kernel
theorem dX8_rule_121 : decode cX8_rule 121 = .ok (.getfield 56, 3) := by decide +kernel
theorem dX8_rule_124 : decode cX8_rule 124 = .ok (.aload_n 0, 1) := by decide +kernel
theorem dX8_rule_125 : decode cX8_rule 125 = .ok (.getfield 204, 3) := by decide +kernel
theorem dX8_rule_128 : decode cX8_rule 128 = .ok (.iload_n 3, 1) := by decide +kernel
theorem dX8_rule_129 : decode cX8_rule 129 = .ok (.iastore, 1) := by decide +kernel
theorem dX8_rule_130 : decode cX8_rule 130 = .ok (.goto 13, 3) := by decide +kernel
theorem dX8_rule_133 : decode cX8_rule 133 = .ok (.aload_n 0, 1) := by decide +kernel
theorem dX8_rule_134 : decode cX8_rule 134 = .ok (.getfield 53, 3) := by decide +kernel
theorem dX8_rule_137 : decode cX8_rule 137 = .ok (.aload_n 0, 1) := by decide +kernel
theorem dX8_rule_138 : decode cX8_rule 138 = .ok (.getfield 204, 3) := by decide +kernel
theorem dX8_rule_141 : decode cX8_rule 141 = .ok (.iload_n 3, 1) := by decide +kernel
theorem dX8_rule_142 : decode cX8_rule 142 = .ok (.iastore, 1) := by decide +kernel
theorem dX8_rule_143 : decode cX8_rule 143 = .ok (.iinc 2 1, 3) := by decide +kernel
theorem dX8_rule_146 : decode cX8_rule 146 = .ok (.goto (-127), 3) := by decide +kernel
theorem dX8_rule_149 : decode cX8_rule 149 = .ok (.aload_n 0, 1) := by decide +kernel
theorem dX8_rule_150 : decode cX8_rule 150 = .ok (.iload_n 1, 1) := by decide +kernel
theorem dX8_rule_151 : decode cX8_rule 151 = .ok (.putfield 65, 3) := by decide +kernel
theorem dX8_rule_154 : decode cX8_rule 154 = .ok (.aload_n 0, 1) := by decide +kernel
theorem dX8_rule_155 : decode cX8_rule 155 = .ok (.iconst 0, 1) := by decide +kernel
theorem dX8_rule_156 : decode cX8_rule 156 = .ok (.putfield 185, 3) := by decide +kernel
theorem dX8_rule_159 : decode cX8_rule 159 = .ok (.aload_n 0, 1) := by decide +kernel
theorem dX8_rule_160 : decode cX8_rule 160 = .ok (.getfield 204, 3) := by decide +kernel
theorem dX8_rule_163 : decode cX8_rule 163 = .ok (.ireturn, 1) := by decide +kernel
theorem dX8_askedAt_0 : decode cX8_askedAt 0 = .ok (.aload_n 0, 1) := by decide +kernel
theorem dX8_askedAt_1 : decode cX8_askedAt 1 = .ok (.getfield 65, 3) := by decide +kernel
theorem dX8_askedAt_4 : decode cX8_askedAt 4 = .ok (.istore_n 3, 1) := by decide +kernel
theorem dX8_askedAt_5 : decode cX8_askedAt 5 = .ok (.aload_n 0, 1) := by decide +kernel
theorem dX8_askedAt_6 : decode cX8_askedAt 6 = .ok (.getfield 204, 3) := by decide +kernel
theorem dX8_askedAt_9 : decode cX8_askedAt 9 = .ok (.iconst 1, 1) := by decide +kernel
theorem dX8_askedAt_10 : decode cX8_askedAt 10 = .ok (.isub, 1) := by decide +kernel
theorem dX8_askedAt_11 : decode cX8_askedAt 11 = .ok (.istore 4, 2) := by decide +kernel
theorem dX8_askedAt_13 : decode cX8_askedAt 13 = .ok (.iload 4, 2) := by decide +kernel
theorem dX8_askedAt_15 : decode cX8_askedAt 15 = .ok (.ifCond .lt 122, 3) := by decide +kernel
theorem dX8_askedAt_18 : decode cX8_askedAt 18 = .ok (.aload_n 0, 1) := by decide +kernel
theorem dX8_askedAt_19 : decode cX8_askedAt 19 = .ok (.getfield 53, 3) := by decide +kernel
theorem dX8_askedAt_22 : decode cX8_askedAt 22 = .ok (.iload 4, 2) := by decide +kernel
theorem dX8_askedAt_24 : decode cX8_askedAt 24 = .ok (.iaload, 1) := by decide +kernel
theorem dX8_askedAt_25 : decode cX8_askedAt 25 = .ok (.bipush 108, 2) := by decide +kernel
theorem dX8_askedAt_27 : decode cX8_askedAt 27 = .ok (.if_icmp .ne 7, 3) := by decide +kernel
theorem dX8_askedAt_30 : decode cX8_askedAt 30 = .ok (.iload_n 2, 1) := by decide +kernel
theorem dX8_askedAt_31 : decode cX8_askedAt 31 = .ok (.goto 4, 3) := by decide +kernel
theorem dX8_askedAt_34 : decode cX8_askedAt 34 = .ok (.iload_n 1, 1) := by decide +kernel
theorem dX8_askedAt_35 : decode cX8_askedAt 35 = .ok (.istore 5, 2) := by decide +kernel
theorem dX8_askedAt_37 : decode cX8_askedAt 37 = .ok (.aload_n 0, 1) := by decide +kernel
theorem dX8_askedAt_38 : decode cX8_askedAt 38 = .ok (.getfield 59, 3) := by decide +kernel
theorem dX8_askedAt_41 : decode cX8_askedAt 41 = .ok (.iload 4, 2) := by decide +kernel
theorem dX8_askedAt_43 : decode cX8_askedAt 43 = .ok (.iaload, 1) := by decide +kernel
theorem dX8_askedAt_44 : decode cX8_askedAt 44 = .ok (.istore 6, 2) := by decide +kernel
theorem dX8_askedAt_46 : decode cX8_askedAt 46 = .ok (.aload_n 0, 1) := by decide +kernel
theorem dX8_askedAt_47 : decode cX8_askedAt 47 = .ok (.getfield 56, 3) := by decide +kernel
theorem dX8_askedAt_50 : decode cX8_askedAt 50 = .ok (.iload 4, 2) := by decide +kernel
theorem dX8_askedAt_52 : decode cX8_askedAt 52 = .ok (.iaload, 1) := by decide +kernel
theorem dX8_askedAt_53 : decode cX8_askedAt 53 = .ok (.bipush 60, 2) := by decide +kernel
theorem dX8_askedAt_55 : decode cX8_askedAt 55 = .ok (.if_icmp .ne 18, 3) := by decide +kernel
theorem dX8_askedAt_58 : decode cX8_askedAt 58 = .ok (.iload 5, 2) := by decide +kernel
theorem dX8_askedAt_60 : decode cX8_askedAt 60 = .ok (.iload 6, 2) := by decide +kernel
theorem dX8_askedAt_62 : decode cX8_askedAt 62 = .ok (.if_icmp .ge 7, 3) := by decide +kernel
theorem dX8_askedAt_65 : decode cX8_askedAt 65 = .ok (.iconst 1, 1) := by decide +kernel
theorem dX8_askedAt_66 : decode cX8_askedAt 66 = .ok (.goto 46, 3) := by decide +kernel
theorem dX8_askedAt_69 : decode cX8_askedAt 69 = .ok (.iconst 0, 1) := by decide +kernel
theorem dX8_askedAt_70 : decode cX8_askedAt 70 = .ok (.goto 42, 3) := by decide +kernel
theorem dX8_askedAt_73 : decode cX8_askedAt 73 = .ok (.aload_n 0, 1) := by decide +kernel
theorem dX8_askedAt_74 : decode cX8_askedAt 74 = .ok (.getfield 56, 3) := by decide +kernel
theorem dX8_askedAt_77 : decode cX8_askedAt 77 = .ok (.iload 4, 2) := by decide +kernel
theorem dX8_askedAt_79 : decode cX8_askedAt 79 = .ok (.iaload, 1) := by decide +kernel
theorem dX8_askedAt_80 : decode cX8_askedAt 80 = .ok (.bipush 62, 2) := by decide +kernel
theorem dX8_askedAt_82 : decode cX8_askedAt 82 = .ok (.if_icmp .ne 18, 3) := by decide +kernel
theorem dX8_askedAt_85 : decode cX8_askedAt 85 = .ok (.iload 5, 2) := by decide +kernel
theorem dX8_askedAt_87 : decode cX8_askedAt 87 = .ok (.iload 6, 2) := by decide +kernel
theorem dX8_askedAt_89 : decode cX8_askedAt 89 = .ok (.if_icmp .le 7, 3) := by decide +kernel
theorem dX8_askedAt_92 : decode cX8_askedAt 92 = .ok (.iconst 1, 1) := by decide +kernel
theorem dX8_askedAt_93 : decode cX8_askedAt 93 = .ok (.goto 19, 3) := by decide +kernel
theorem dX8_askedAt_96 : decode cX8_askedAt 96 = .ok (.iconst 0, 1) := by decide +kernel
theorem dX8_askedAt_97 : decode cX8_askedAt 97 = .ok (.goto 15, 3) := by decide +kernel
theorem dX8_askedAt_100 : decode cX8_askedAt 100 = .ok (.iload 5, 2) := by decide +kernel
theorem dX8_askedAt_102 : decode cX8_askedAt 102 = .ok (.iload 6, 2) := by decide +kernel
theorem dX8_askedAt_104 : decode cX8_askedAt 104 = .ok (.if_icmp .ne 7, 3) := by decide +kernel
theorem dX8_askedAt_107 : decode cX8_askedAt 107 = .ok (.iconst 1, 1) := by decide +kernel
theorem dX8_askedAt_108 : decode cX8_askedAt 108 = .ok (.goto 4, 3) := by decide +kernel
theorem dX8_askedAt_111 : decode cX8_askedAt 111 = .ok (.iconst 0, 1) := by decide +kernel
theorem dX8_askedAt_112 : decode cX8_askedAt 112 = .ok (.istore 7, 2) := by decide +kernel
theorem dX8_askedAt_114 : decode cX8_askedAt 114 = .ok (.iload 7, 2) := by decide +kernel
theorem dX8_askedAt_116 : decode cX8_askedAt 116 = .ok (.ifCond .eq 13, 3) := by decide +kernel
theorem dX8_askedAt_119 : decode cX8_askedAt 119 = .ok (.aload_n 0, 1) := by decide +kernel
theorem dX8_askedAt_120 : decode cX8_askedAt 120 = .ok (.getfield 62, 3) := by decide +kernel
theorem dX8_askedAt_123 : decode cX8_askedAt 123 = .ok (.iload 4, 2) := by decide +kernel
theorem dX8_askedAt_125 : decode cX8_askedAt 125 = .ok (.iaload, 1) := by decide +kernel
theorem dX8_askedAt_126 : decode cX8_askedAt 126 = .ok (.goto 4, 3) := by decide +kernel
theorem dX8_askedAt_129 : decode cX8_askedAt 129 = .ok (.iload_n 3, 1) := by decide +kernel
theorem dX8_askedAt_130 : decode cX8_askedAt 130 = .ok (.istore_n 3, 1) := by decide +kernel
theorem dX8_askedAt_131 : decode cX8_askedAt 131 = .ok (.iinc 4 (-1), 3) := by decide +kernel
theorem dX8_askedAt_134 : decode cX8_askedAt 134 = .ok (.goto (-121), 3) := by decide +kernel
theorem dX8_askedAt_137 : decode cX8_askedAt 137 = .ok (.iload_n 3, 1) := by decide +kernel
theorem dX8_askedAt_138 : decode cX8_askedAt 138 = .ok (.aload_n 0, 1) := by decide +kernel
theorem dX8_askedAt_139 : decode cX8_askedAt 139 = .ok (.getfield 96, 3) := by decide +kernel
theorem dX8_askedAt_142 : decode cX8_askedAt 142 = .ok (.if_icmp .ge 7, 3) := by decide +kernel
theorem dX8_askedAt_145 : decode cX8_askedAt 145 = .ok (.iload_n 3, 1) := by decide +kernel
theorem dX8_askedAt_146 : decode cX8_askedAt 146 = .ok (.goto 9, 3) := by decide +kernel
theorem dX8_askedAt_149 : decode cX8_askedAt 149 = .ok (.aload_n 0, 1) := by decide +kernel
theorem dX8_askedAt_150 : decode cX8_askedAt 150 = .ok (.getfield 96, 3) := by decide +kernel
theorem dX8_askedAt_153 : decode cX8_askedAt 153 = .ok (.iconst 1, 1) := by decide +kernel
theorem dX8_askedAt_154 : decode cX8_askedAt 154 = .ok (.isub, 1) := by decide +kernel
theorem dX8_askedAt_155 : decode cX8_askedAt 155 = .ok (.ireturn, 1) := by decide +kernel
theorem dX8_isReady_0 : decode cX8_isReady 0 = .ok (.aload_n 0, 1) := by decide +kernel
theorem dX8_isReady_1 : decode cX8_isReady 1 = .ok (.getfield 96, 3) := by decide +kernel
theorem dX8_isReady_4 : decode cX8_isReady 4 = .ok (.ifCond .le 14, 3) := by decide +kernel
theorem dX8_isReady_7 : decode cX8_isReady 7 = .ok (.aload_n 0, 1) := by decide +kernel
theorem dX8_isReady_8 : decode cX8_isReady 8 = .ok (.getfield 65, 3) := by decide +kernel
theorem dX8_isReady_11 : decode cX8_isReady 11 = .ok (.ifCond .lt 7, 3) := by decide +kernel
theorem dX8_isReady_14 : decode cX8_isReady 14 = .ok (.iconst 1, 1) := by decide +kernel
theorem dX8_isReady_15 : decode cX8_isReady 15 = .ok (.goto 4, 3) := by decide +kernel
theorem dX8_isReady_18 : decode cX8_isReady 18 = .ok (.iconst 0, 1) := by decide +kernel
theorem dX8_isReady_19 : decode cX8_isReady 19 = .ok (.ireturn, 1) := by decide +kernel
theorem dX8_asks_0 : decode cX8_asks 0 = .ok (.iload_n 1, 1) := by decide +kernel
theorem dX8_asks_1 : decode cX8_asks 1 = .ok (.i2l, 1) := by decide +kernel
theorem dX8_asks_2 : decode cX8_asks 2 = .ok (.lconst 0, 1) := by decide +kernel
theorem dX8_asks_3 : decode cX8_asks 3 = .ok (.ldc2_w 114, 3) := by decide +kernel
theorem dX8_asks_6 : decode cX8_asks 6 = .ok (.invokestatic 83, 3) := by decide +kernel
theorem dX8_asks_9 : decode cX8_asks 9 = .ok (.ifCond .eq 15, 3) := by decide +kernel
theorem dX8_asks_12 : decode cX8_asks 12 = .ok (.iload_n 2, 1) := by decide +kernel
theorem dX8_asks_13 : decode cX8_asks 13 = .ok (.i2l, 1) := by decide +kernel
theorem dX8_asks_14 : decode cX8_asks 14 = .ok (.lconst 0, 1) := by decide +kernel
theorem dX8_asks_15 : decode cX8_asks 15 = .ok (.ldc2_w 87, 3) := by decide +kernel
theorem dX8_asks_18 : decode cX8_asks 18 = .ok (.invokestatic 83, 3) := by decide +kernel
theorem dX8_asks_21 : decode cX8_asks 21 = .ok (.ifCond .ne 6, 3) := by decide +kernel
theorem dX8_asks_24 : decode cX8_asks 24 = .ok (.bipush (-2), 2) := by decide +kernel
theorem dX8_asks_26 : decode cX8_asks 26 = .ok (.ireturn, 1) := by decide +kernel
theorem dX8_asks_27 : decode cX8_asks 27 = .ok (.aload_n 0, 1) := by decide +kernel
theorem dX8_asks_28 : decode cX8_asks 28 = .ok (.invokevirtual 207, 3) := by decide +kernel
theorem dX8_asks_31 : decode cX8_asks 31 = .ok (.ifCond .eq 12, 3) := by decide +kernel
theorem dX8_asks_34 : decode cX8_asks 34 = .ok (.aload_n 0, 1) := by decide +kernel
theorem dX8_asks_35 : decode cX8_asks 35 = .ok (.iload_n 1, 1) := by decide +kernel
theorem dX8_asks_36 : decode cX8_asks 36 = .ok (.iload_n 2, 1) := by decide +kernel
theorem dX8_asks_37 : decode cX8_asks 37 = .ok (.invokevirtual 210, 3) := by decide +kernel
theorem dX8_asks_40 : decode cX8_asks 40 = .ok (.goto 5, 3) := by decide +kernel
theorem dX8_asks_43 : decode cX8_asks 43 = .ok (.bipush (-3), 2) := by decide +kernel
theorem dX8_asks_45 : decode cX8_asks 45 = .ok (.ireturn, 1) := by decide +kernel
theorem dX8_findBoy_0 : decode cX8_findBoy 0 = .ok (.aload_n 0, 1) := by decide +kernel
theorem dX8_findBoy_1 : decode cX8_findBoy 1 = .ok (.invokevirtual 128, 3) := by decide +kernel
theorem dX8_findBoy_4 : decode cX8_findBoy 4 = .ok (.iconst 0, 1) := by decide +kernel
theorem dX8_findBoy_5 : decode cX8_findBoy 5 = .ok (.istore_n 1, 1) := by decide +kernel
theorem dX8_findBoy_6 : decode cX8_findBoy 6 = .ok (.iload_n 1, 1) := by decide +kernel
theorem dX8_findBoy_7 : decode cX8_findBoy 7 = .ok (.bipush 12, 2) := by decide +kernel
theorem dX8_findBoy_9 : decode cX8_findBoy 9 = .ok (.if_icmp .gt 21, 3) := by decide +kernel
theorem dX8_findBoy_12 : decode cX8_findBoy 12 = .ok (.aload_n 0, 1) := by decide +kernel
theorem dX8_findBoy_13 : decode cX8_findBoy 13 = .ok (.getfield 69, 3) := by decide +kernel
theorem dX8_findBoy_16 : decode cX8_findBoy 16 = .ok (.iload_n 1, 1) := by decide +kernel
theorem dX8_findBoy_17 : decode cX8_findBoy 17 = .ok (.aload_n 0, 1) := by decide +kernel
theorem dX8_findBoy_18 : decode cX8_findBoy 18 = .ok (.getfield 28, 3) := by decide +kernel
theorem dX8_findBoy_21 : decode cX8_findBoy 21 = .ok (.iload_n 1, 1) := by decide +kernel
theorem dX8_findBoy_22 : decode cX8_findBoy 22 = .ok (.laload, 1) := by decide +kernel
theorem dX8_findBoy_23 : decode cX8_findBoy 23 = .ok (.lastore, 1) := by decide +kernel
theorem dX8_findBoy_24 : decode cX8_findBoy 24 = .ok (.iinc 1 1, 3) := by decide +kernel
theorem dX8_findBoy_27 : decode cX8_findBoy 27 = .ok (.goto (-21), 3) := by decide +kernel
theorem dX8_findBoy_30 : decode cX8_findBoy 30 = .ok (.aload_n 0, 1) := by decide +kernel
theorem dX8_findBoy_31 : decode cX8_findBoy 31 = .ok (.getfield 120, 3) := by decide +kernel
theorem dX8_findBoy_34 : decode cX8_findBoy 34 = .ok (.lstore_n 1, 1) := by decide +kernel
theorem dX8_findBoy_35 : decode cX8_findBoy 35 = .ok (.aload_n 0, 1) := by decide +kernel
theorem dX8_findBoy_36 : decode cX8_findBoy 36 = .ok (.getfield 78, 3) := by decide +kernel
theorem dX8_findBoy_39 : decode cX8_findBoy 39 = .ok (.iconst 1, 1) := by decide +kernel
theorem dX8_findBoy_40 : decode cX8_findBoy 40 = .ok (.isub, 1) := by decide +kernel
theorem dX8_findBoy_41 : decode cX8_findBoy 41 = .ok (.istore_n 3, 1) := by decide +kernel
theorem dX8_findBoy_42 : decode cX8_findBoy 42 = .ok (.iload_n 3, 1) := by decide +kernel
theorem dX8_findBoy_43 : decode cX8_findBoy 43 = .ok (.ifCond .lt 161, 3) := by decide +kernel
theorem dX8_findBoy_46 : decode cX8_findBoy 46 = .ok (.iconst 0, 1) := by decide +kernel
theorem dX8_findBoy_47 : decode cX8_findBoy 47 = .ok (.istore 4, 2) := by decide +kernel
theorem dX8_findBoy_49 : decode cX8_findBoy 49 = .ok (.iload 4, 2) := by decide +kernel
theorem dX8_findBoy_51 : decode cX8_findBoy 51 = .ok (.aload_n 0, 1) := by decide +kernel
theorem dX8_findBoy_52 : decode cX8_findBoy 52 = .ok (.getfield 96, 3) := by decide +kernel
theorem dX8_findBoy_55 : decode cX8_findBoy 55 = .ok (.if_icmp .ge 108, 3) := by decide +kernel
theorem dX8_findBoy_58 : decode cX8_findBoy 58 = .ok (.aload_n 0, 1) := by decide +kernel
theorem dX8_findBoy_59 : decode cX8_findBoy 59 = .ok (.lload_n 1, 1) := by decide +kernel
theorem dX8_findBoy_60 : decode cX8_findBoy 60 = .ok (.putfield 120, 3) := by decide +kernel
theorem dX8_findBoy_63 : decode cX8_findBoy 63 = .ok (.iconst 0, 1) := by decide +kernel
theorem dX8_findBoy_64 : decode cX8_findBoy 64 = .ok (.istore 5, 2) := by decide +kernel
theorem dX8_findBoy_66 : decode cX8_findBoy 66 = .ok (.iload 5, 2) := by decide +kernel
theorem dX8_findBoy_68 : decode cX8_findBoy 68 = .ok (.bipush 12, 2) := by decide +kernel
theorem dX8_findBoy_70 : decode cX8_findBoy 70 = .ok (.if_icmp .gt 23, 3) := by decide +kernel
theorem dX8_findBoy_73 : decode cX8_findBoy 73 = .ok (.aload_n 0, 1) := by decide +kernel
theorem dX8_findBoy_74 : decode cX8_findBoy 74 = .ok (.getfield 28, 3) := by decide +kernel
theorem dX8_findBoy_77 : decode cX8_findBoy 77 = .ok (.iload 5, 2) := by decide +kernel
theorem dX8_findBoy_79 : decode cX8_findBoy 79 = .ok (.aload_n 0, 1) := by decide +kernel
theorem dX8_findBoy_80 : decode cX8_findBoy 80 = .ok (.getfield 69, 3) := by decide +kernel
theorem dX8_findBoy_83 : decode cX8_findBoy 83 = .ok (.iload 5, 2) := by decide +kernel
theorem dX8_findBoy_85 : decode cX8_findBoy 85 = .ok (.laload, 1) := by decide +kernel
theorem dX8_findBoy_86 : decode cX8_findBoy 86 = .ok (.lastore, 1) := by decide +kernel
theorem dX8_findBoy_87 : decode cX8_findBoy 87 = .ok (.iinc 5 1, 3) := by decide +kernel
theorem dX8_findBoy_90 : decode cX8_findBoy 90 = .ok (.goto (-24), 3) := by decide +kernel
theorem dX8_findBoy_93 : decode cX8_findBoy 93 = .ok (.aload_n 0, 1) := by decide +kernel
theorem dX8_findBoy_94 : decode cX8_findBoy 94 = .ok (.iload_n 3, 1) := by decide +kernel
theorem dX8_findBoy_95 : decode cX8_findBoy 95 = .ok (.aload_n 0, 1) := by decide +kernel
theorem dX8_findBoy_96 : decode cX8_findBoy 96 = .ok (.getfield 7, 3) := by decide +kernel
theorem dX8_findBoy_99 : decode cX8_findBoy 99 = .ok (.iload 4, 2) := by decide +kernel
theorem dX8_findBoy_101 : decode cX8_findBoy 101 = .ok (.iaload, 1) := by decide +kernel
theorem dX8_findBoy_102 : decode cX8_findBoy 102 = .ok (.invokevirtual 135, 3) := by decide +kernel
theorem dX8_findBoy_105 : decode cX8_findBoy 105 = .ok (.iconst 0, 1) := by decide +kernel
theorem dX8_findBoy_106 : decode cX8_findBoy 106 = .ok (.istore 5, 2) := by decide +kernel
theorem dX8_findBoy_108 : decode cX8_findBoy 108 = .ok (.iload 5, 2) := by decide +kernel
theorem dX8_findBoy_110 : decode cX8_findBoy 110 = .ok (.bipush 12, 2) := by decide +kernel
theorem dX8_findBoy_112 : decode cX8_findBoy 112 = .ok (.if_icmp .gt 45, 3) := by decide +kernel
theorem dX8_findBoy_115 : decode cX8_findBoy 115 = .ok (.aload_n 0, 1) := by decide +kernel
theorem dX8_findBoy_116 : decode cX8_findBoy 116 = .ok (.getfield 72, 3) := by decide +kernel
theorem dX8_findBoy_119 : decode cX8_findBoy 119 = .ok (.iload 5, 2) := by decide +kernel
theorem dX8_findBoy_121 : decode cX8_findBoy 121 = .ok (.aload_n 0, 1) := by decide +kernel
theorem dX8_findBoy_122 : decode cX8_findBoy 122 = .ok (.iload_n 3, 1) := by decide +kernel
theorem dX8_findBoy_123 : decode cX8_findBoy 123 = .ok (.iload 5, 2) := by decide +kernel
theorem dX8_findBoy_125 : decode cX8_findBoy 125 = .ok (.invokevirtual 210, 3) := by decide +kernel
theorem dX8_findBoy_128 : decode cX8_findBoy 128 = .ok (.iload 4, 2) := by decide +kernel
theorem dX8_findBoy_130 : decode cX8_findBoy 130 = .ok (.if_icmp .ne 13, 3) := by decide +kernel
theorem dX8_findBoy_133 : decode cX8_findBoy 133 = .ok (.aload_n 0, 1) := by decide +kernel
theorem dX8_findBoy_134 : decode cX8_findBoy 134 = .ok (.getfield 28, 3) := by decide +kernel
theorem dX8_findBoy_137 : decode cX8_findBoy 137 = .ok (.iload 5, 2) := by decide +kernel
theorem dX8_findBoy_139 : decode cX8_findBoy 139 = .ok (.laload, 1) := by decide +kernel
theorem dX8_findBoy_140 : decode cX8_findBoy 140 = .ok (.goto 10, 3) := by decide +kernel
theorem dX8_findBoy_143 : decode cX8_findBoy 143 = .ok (.aload_n 0, 1) := by decide +kernel
theorem dX8_findBoy_144 : decode cX8_findBoy 144 = .ok (.getfield 72, 3) := by decide +kernel
theorem dX8_findBoy_147 : decode cX8_findBoy 147 = .ok (.iload 5, 2) := by decide +kernel
theorem dX8_findBoy_149 : decode cX8_findBoy 149 = .ok (.laload, 1) := by decide +kernel
theorem dX8_findBoy_150 : decode cX8_findBoy 150 = .ok (.lastore, 1) := by decide +kernel
theorem dX8_findBoy_151 : decode cX8_findBoy 151 = .ok (.iinc 5 1, 3) := by decide +kernel
theorem dX8_findBoy_154 : decode cX8_findBoy 154 = .ok (.goto (-46), 3) := by decide +kernel
theorem dX8_findBoy_157 : decode cX8_findBoy 157 = .ok (.iinc 4 1, 3) := by decide +kernel
theorem dX8_findBoy_160 : decode cX8_findBoy 160 = .ok (.goto (-111), 3) := by decide +kernel
theorem dX8_findBoy_163 : decode cX8_findBoy 163 = .ok (.iconst 0, 1) := by decide +kernel
theorem dX8_findBoy_164 : decode cX8_findBoy 164 = .ok (.istore 4, 2) := by decide +kernel
theorem dX8_findBoy_166 : decode cX8_findBoy 166 = .ok (.iload 4, 2) := by decide +kernel
theorem dX8_findBoy_168 : decode cX8_findBoy 168 = .ok (.bipush 12, 2) := by decide +kernel
theorem dX8_findBoy_170 : decode cX8_findBoy 170 = .ok (.if_icmp .gt 23, 3) := by decide +kernel
theorem dX8_findBoy_173 : decode cX8_findBoy 173 = .ok (.aload_n 0, 1) := by decide +kernel
theorem dX8_findBoy_174 : decode cX8_findBoy 174 = .ok (.getfield 69, 3) := by decide +kernel
theorem dX8_findBoy_177 : decode cX8_findBoy 177 = .ok (.iload 4, 2) := by decide +kernel
theorem dX8_findBoy_179 : decode cX8_findBoy 179 = .ok (.aload_n 0, 1) := by decide +kernel
theorem dX8_findBoy_180 : decode cX8_findBoy 180 = .ok (.getfield 72, 3) := by decide +kernel
theorem dX8_findBoy_183 : decode cX8_findBoy 183 = .ok (.iload 4, 2) := by decide +kernel
theorem dX8_findBoy_185 : decode cX8_findBoy 185 = .ok (.laload, 1) := by decide +kernel
theorem dX8_findBoy_186 : decode cX8_findBoy 186 = .ok (.lastore, 1) := by decide +kernel
theorem dX8_findBoy_187 : decode cX8_findBoy 187 = .ok (.iinc 4 1, 3) := by decide +kernel
theorem dX8_findBoy_190 : decode cX8_findBoy 190 = .ok (.goto (-24), 3) := by decide +kernel
theorem dX8_findBoy_193 : decode cX8_findBoy 193 = .ok (.aload_n 0, 1) := by decide +kernel
theorem dX8_findBoy_194 : decode cX8_findBoy 194 = .ok (.getfield 120, 3) := by decide +kernel
theorem dX8_findBoy_197 : decode cX8_findBoy 197 = .ok (.lstore_n 1, 1) := by decide +kernel
theorem dX8_findBoy_198 : decode cX8_findBoy 198 = .ok (.iinc 3 (-1), 3) := by decide +kernel
theorem dX8_findBoy_201 : decode cX8_findBoy 201 = .ok (.goto (-159), 3) := by decide +kernel
theorem dX8_findBoy_204 : decode cX8_findBoy 204 = .ok (.return_, 1) := by decide +kernel
theorem dX8_boy_0 : decode cX8_boy 0 = .ok (.iload_n 1, 1) := by decide +kernel
theorem dX8_boy_1 : decode cX8_boy 1 = .ok (.invokestatic 138, 3) := by decide +kernel
theorem dX8_boy_4 : decode cX8_boy 4 = .ok (.ifCond .ne 7, 3) := by decide +kernel
theorem dX8_boy_7 : decode cX8_boy 7 = .ok (.ldc2_w 141, 3) := by decide +kernel
theorem dX8_boy_10 : decode cX8_boy 10 = .ok (.lreturn, 1) := by decide +kernel
theorem dX8_boy_11 : decode cX8_boy 11 = .ok (.aload_n 0, 1) := by decide +kernel
theorem dX8_boy_12 : decode cX8_boy 12 = .ok (.invokevirtual 207, 3) := by decide +kernel
theorem dX8_boy_15 : decode cX8_boy 15 = .ok (.ifCond .ne 7, 3) := by decide +kernel
theorem dX8_boy_18 : decode cX8_boy 18 = .ok (.ldc2_w 143, 3) := by decide +kernel
theorem dX8_boy_21 : decode cX8_boy 21 = .ok (.lreturn, 1) := by decide +kernel
theorem dX8_boy_22 : decode cX8_boy 22 = .ok (.aload_n 0, 1) := by decide +kernel
theorem dX8_boy_23 : decode cX8_boy 23 = .ok (.invokevirtual 213, 3) := by decide +kernel
theorem dX8_boy_26 : decode cX8_boy 26 = .ok (.aload_n 0, 1) := by decide +kernel
theorem dX8_boy_27 : decode cX8_boy 27 = .ok (.getfield 69, 3) := by decide +kernel
theorem dX8_boy_30 : decode cX8_boy 30 = .ok (.aload_n 0, 1) := by decide +kernel
theorem dX8_boy_31 : decode cX8_boy 31 = .ok (.getfield 75, 3) := by decide +kernel
theorem dX8_boy_34 : decode cX8_boy 34 = .ok (.laload, 1) := by decide +kernel
theorem dX8_boy_35 : decode cX8_boy 35 = .ok (.aload_n 0, 1) := by decide +kernel
theorem dX8_boy_36 : decode cX8_boy 36 = .ok (.getfield 103, 3) := by decide +kernel
theorem dX8_boy_39 : decode cX8_boy 39 = .ok (.aload_n 0, 1) := by decide +kernel
theorem dX8_boy_40 : decode cX8_boy 40 = .ok (.getfield 78, 3) := by decide +kernel
theorem dX8_boy_43 : decode cX8_boy 43 = .ok (.imul, 1) := by decide +kernel
theorem dX8_boy_44 : decode cX8_boy 44 = .ok (.invokestatic 161, 3) := by decide +kernel
theorem dX8_boy_47 : decode cX8_boy 47 = .ok (.iload_n 1, 1) := by decide +kernel
theorem dX8_boy_48 : decode cX8_boy 48 = .ok (.invokestatic 151, 3) := by decide +kernel
theorem dX8_boy_51 : decode cX8_boy 51 = .ok (.lreturn, 1) := by decide +kernel
theorem dX8_worst_0 : decode cX8_worst 0 = .ok (.aload_n 0, 1) := by decide +kernel
theorem dX8_worst_1 : decode cX8_worst 1 = .ok (.invokevirtual 207, 3) := by decide +kernel
theorem dX8_worst_4 : decode cX8_worst 4 = .ok (.ifCond .ne 6, 3) := by decide +kernel
theorem dX8_worst_7 : decode cX8_worst 7 = .ok (.bipush (-3), 2) := by decide +kernel
theorem dX8_worst_9 : decode cX8_worst 9 = .ok (.ireturn, 1) := by decide +kernel
theorem dX8_worst_10 : decode cX8_worst 10 = .ok (.aload_n 0, 1) := by decide +kernel
theorem dX8_worst_11 : decode cX8_worst 11 = .ok (.invokevirtual 158, 3) := by decide +kernel
theorem dX8_worst_14 : decode cX8_worst 14 = .ok (.aload_n 0, 1) := by decide +kernel
theorem dX8_worst_15 : decode cX8_worst 15 = .ok (.invokevirtual 213, 3) := by decide +kernel
theorem dX8_worst_18 : decode cX8_worst 18 = .ok (.iconst 1, 1) := by decide +kernel
theorem dX8_worst_19 : decode cX8_worst 19 = .ok (.istore_n 1, 1) := by decide +kernel
theorem dX8_worst_20 : decode cX8_worst 20 = .ok (.iconst 2, 1) := by decide +kernel
theorem dX8_worst_21 : decode cX8_worst 21 = .ok (.istore_n 2, 1) := by decide +kernel
theorem dX8_worst_22 : decode cX8_worst 22 = .ok (.iload_n 2, 1) := by decide +kernel
theorem dX8_worst_23 : decode cX8_worst 23 = .ok (.bipush 12, 2) := by decide +kernel
theorem dX8_worst_25 : decode cX8_worst 25 = .ok (.if_icmp .gt 45, 3) := by decide +kernel
theorem dX8_worst_28 : decode cX8_worst 28 = .ok (.aload_n 0, 1) := by decide +kernel
theorem dX8_worst_29 : decode cX8_worst 29 = .ok (.getfield 32, 3) := by decide +kernel
theorem dX8_worst_32 : decode cX8_worst 32 = .ok (.iload_n 2, 1) := by decide +kernel
theorem dX8_worst_33 : decode cX8_worst 33 = .ok (.laload, 1) := by decide +kernel
theorem dX8_worst_34 : decode cX8_worst 34 = .ok (.aload_n 0, 1) := by decide +kernel
theorem dX8_worst_35 : decode cX8_worst 35 = .ok (.getfield 69, 3) := by decide +kernel
theorem dX8_worst_38 : decode cX8_worst 38 = .ok (.iload_n 2, 1) := by decide +kernel
theorem dX8_worst_39 : decode cX8_worst 39 = .ok (.laload, 1) := by decide +kernel
theorem dX8_worst_40 : decode cX8_worst 40 = .ok (.lsub, 1) := by decide +kernel
theorem dX8_worst_41 : decode cX8_worst 41 = .ok (.aload_n 0, 1) := by decide +kernel
theorem dX8_worst_42 : decode cX8_worst 42 = .ok (.getfield 32, 3) := by decide +kernel
theorem dX8_worst_45 : decode cX8_worst 45 = .ok (.iload_n 1, 1) := by decide +kernel
theorem dX8_worst_46 : decode cX8_worst 46 = .ok (.laload, 1) := by decide +kernel
theorem dX8_worst_47 : decode cX8_worst 47 = .ok (.aload_n 0, 1) := by decide +kernel
theorem dX8_worst_48 : decode cX8_worst 48 = .ok (.getfield 69, 3) := by decide +kernel
theorem dX8_worst_51 : decode cX8_worst 51 = .ok (.iload_n 1, 1) := by decide +kernel
theorem dX8_worst_52 : decode cX8_worst 52 = .ok (.laload, 1) := by decide +kernel
theorem dX8_worst_53 : decode cX8_worst 53 = .ok (.lsub, 1) := by decide +kernel
theorem dX8_worst_54 : decode cX8_worst 54 = .ok (.lcmp, 1) := by decide +kernel
theorem dX8_worst_55 : decode cX8_worst 55 = .ok (.ifCond .le 7, 3) := by decide +kernel
theorem dX8_worst_58 : decode cX8_worst 58 = .ok (.iload_n 2, 1) := by decide +kernel
theorem dX8_worst_59 : decode cX8_worst 59 = .ok (.goto 4, 3) := by decide +kernel
theorem dX8_worst_62 : decode cX8_worst 62 = .ok (.iload_n 1, 1) := by decide +kernel
theorem dX8_worst_63 : decode cX8_worst 63 = .ok (.istore_n 1, 1) := by decide +kernel
theorem dX8_worst_64 : decode cX8_worst 64 = .ok (.iinc 2 1, 3) := by decide +kernel
theorem dX8_worst_67 : decode cX8_worst 67 = .ok (.goto (-45), 3) := by decide +kernel
theorem dX8_worst_70 : decode cX8_worst 70 = .ok (.iload_n 1, 1) := by decide +kernel
theorem dX8_worst_71 : decode cX8_worst 71 = .ok (.ireturn, 1) := by decide +kernel
theorem dX8_beginPrice_0 : decode cX8_beginPrice 0 = .ok (.aload_n 0, 1) := by decide +kernel
theorem dX8_beginPrice_1 : decode cX8_beginPrice 1 = .ok (.invokevirtual 158, 3) := by decide +kernel
theorem dX8_beginPrice_4 : decode cX8_beginPrice 4 = .ok (.aload_n 0, 1) := by decide +kernel
theorem dX8_beginPrice_5 : decode cX8_beginPrice 5 = .ok (.getfield 35, 3) := by decide +kernel
theorem dX8_beginPrice_8 : decode cX8_beginPrice 8 = .ok (.aload_n 0, 1) := by decide +kernel
theorem dX8_beginPrice_9 : decode cX8_beginPrice 9 = .ok (.getfield 75, 3) := by decide +kernel
theorem dX8_beginPrice_12 : decode cX8_beginPrice 12 = .ok (.iaload, 1) := by decide +kernel
theorem dX8_beginPrice_13 : decode cX8_beginPrice 13 = .ok (.ireturn, 1) := by decide +kernel
theorem dX8_edge_0 : decode cX8_edge 0 = .ok (.aload_n 0, 1) := by decide +kernel
theorem dX8_edge_1 : decode cX8_edge 1 = .ok (.iload_n 1, 1) := by decide +kernel
theorem dX8_edge_2 : decode cX8_edge 2 = .ok (.invokevirtual 106, 3) := by decide +kernel
theorem dX8_edge_5 : decode cX8_edge 5 = .ok (.ifCond .ne 5, 3) := by decide +kernel
theorem dX8_edge_8 : decode cX8_edge 8 = .ok (.iconst (-1), 1) := by decide +kernel
theorem dX8_edge_9 : decode cX8_edge 9 = .ok (.ireturn, 1) := by decide +kernel
theorem dX8_edge_10 : decode cX8_edge 10 = .ok (.aload_n 0, 1) := by decide +kernel
theorem dX8_edge_11 : decode cX8_edge 11 = .ok (.getfield 96, 3) := by decide +kernel
theorem dX8_edge_14 : decode cX8_edge 14 = .ok (.ifCond .eq 10, 3) := by decide +kernel
theorem dX8_edge_17 : decode cX8_edge 17 = .ok (.aload_n 0, 1) := by decide +kernel
theorem dX8_edge_18 : decode cX8_edge 18 = .ok (.getfield 75, 3) := by decide +kernel
theorem dX8_edge_21 : decode cX8_edge 21 = .ok (.ifCond .ne 6, 3) := by decide +kernel
theorem dX8_edge_24 : decode cX8_edge 24 = .ok (.bipush (-3), 2) := by decide +kernel
theorem dX8_edge_26 : decode cX8_edge 26 = .ok (.ireturn, 1) := by decide +kernel
theorem dX8_edge_27 : decode cX8_edge 27 = .ok (.aload_n 0, 1) := by decide +kernel
theorem dX8_edge_28 : decode cX8_edge 28 = .ok (.getfield 13, 3) := by decide +kernel
theorem dX8_edge_31 : decode cX8_edge 31 = .ok (.iload_n 1, 1) := by decide +kernel
theorem dX8_edge_32 : decode cX8_edge 32 = .ok (.iaload, 1) := by decide +kernel
theorem dX8_edge_33 : decode cX8_edge 33 = .ok (.istore_n 2, 1) := by decide +kernel
theorem dX8_edge_34 : decode cX8_edge 34 = .ok (.aload_n 0, 1) := by decide +kernel
theorem dX8_edge_35 : decode cX8_edge 35 = .ok (.invokevirtual 216, 3) := by decide +kernel
theorem dX8_edge_38 : decode cX8_edge 38 = .ok (.istore_n 3, 1) := by decide +kernel
theorem dX8_edge_39 : decode cX8_edge 39 = .ok (.bipush (-6), 2) := by decide +kernel
theorem dX8_edge_41 : decode cX8_edge 41 = .ok (.istore 4, 2) := by decide +kernel
theorem dX8_edge_43 : decode cX8_edge 43 = .ok (.iconst 1, 1) := by decide +kernel
theorem dX8_edge_44 : decode cX8_edge 44 = .ok (.istore 5, 2) := by decide +kernel
theorem dX8_edge_46 : decode cX8_edge 46 = .ok (.iload 5, 2) := by decide +kernel
theorem dX8_edge_48 : decode cX8_edge 48 = .ok (.iconst 4, 1) := by decide +kernel
theorem dX8_edge_49 : decode cX8_edge 49 = .ok (.if_icmp .gt 90, 3) := by decide +kernel
theorem dX8_edge_52 : decode cX8_edge 52 = .ok (.iload 4, 2) := by decide +kernel
theorem dX8_edge_54 : decode cX8_edge 54 = .ok (.ifCond .ge 85, 3) := by decide +kernel
theorem dX8_edge_57 : decode cX8_edge 57 = .ok (.iconst 0, 1) := by decide +kernel
theorem dX8_edge_58 : decode cX8_edge 58 = .ok (.istore 6, 2) := by decide +kernel
theorem dX8_edge_60 : decode cX8_edge 60 = .ok (.iload 6, 2) := by decide +kernel
theorem dX8_edge_62 : decode cX8_edge 62 = .ok (.iconst 2, 1) := by decide +kernel
theorem dX8_edge_63 : decode cX8_edge 63 = .ok (.if_icmp .ge 70, 3) := by decide +kernel
theorem dX8_edge_66 : decode cX8_edge 66 = .ok (.iload 4, 2) := by decide +kernel
theorem dX8_edge_68 : decode cX8_edge 68 = .ok (.ifCond .ge 65, 3) := by decide +kernel
theorem dX8_edge_71 : decode cX8_edge 71 = .ok (.iload 6, 2) := by decide +kernel
theorem dX8_edge_73 : decode cX8_edge 73 = .ok (.ifCond .ne 10, 3) := by decide +kernel
theorem dX8_edge_76 : decode cX8_edge 76 = .ok (.iload_n 2, 1) := by decide +kernel
theorem dX8_edge_77 : decode cX8_edge 77 = .ok (.iload 5, 2) := by decide +kernel
theorem dX8_edge_79 : decode cX8_edge 79 = .ok (.isub, 1) := by decide +kernel
theorem dX8_edge_80 : decode cX8_edge 80 = .ok (.goto 7, 3) := by decide +kernel
theorem dX8_edge_83 : decode cX8_edge 83 = .ok (.iload_n 2, 1) := by decide +kernel
theorem dX8_edge_84 : decode cX8_edge 84 = .ok (.iload 5, 2) := by decide +kernel
theorem dX8_edge_86 : decode cX8_edge 86 = .ok (.iadd, 1) := by decide +kernel
theorem dX8_edge_87 : decode cX8_edge 87 = .ok (.istore 7, 2) := by decide +kernel
theorem dX8_edge_89 : decode cX8_edge 89 = .ok (.iload 7, 2) := by decide +kernel
theorem dX8_edge_91 : decode cX8_edge 91 = .ok (.i2l, 1) := by decide +kernel
theorem dX8_edge_92 : decode cX8_edge 92 = .ok (.lconst 0, 1) := by decide +kernel
theorem dX8_edge_93 : decode cX8_edge 93 = .ok (.ldc2_w 99, 3) := by decide +kernel
theorem dX8_edge_96 : decode cX8_edge 96 = .ok (.invokestatic 83, 3) := by decide +kernel
theorem dX8_edge_99 : decode cX8_edge 99 = .ok (.ifCond .eq 28, 3) := by decide +kernel
theorem dX8_edge_102 : decode cX8_edge 102 = .ok (.aload_n 0, 1) := by decide +kernel
theorem dX8_edge_103 : decode cX8_edge 103 = .ok (.getfield 13, 3) := by decide +kernel
theorem dX8_edge_106 : decode cX8_edge 106 = .ok (.iload_n 1, 1) := by decide +kernel
theorem dX8_edge_107 : decode cX8_edge 107 = .ok (.iload 7, 2) := by decide +kernel
theorem dX8_edge_109 : decode cX8_edge 109 = .ok (.iastore, 1) := by decide +kernel
theorem dX8_edge_110 : decode cX8_edge 110 = .ok (.aload_n 0, 1) := by decide +kernel
theorem dX8_edge_111 : decode cX8_edge 111 = .ok (.invokevirtual 216, 3) := by decide +kernel
theorem dX8_edge_114 : decode cX8_edge 114 = .ok (.iload_n 3, 1) := by decide +kernel
theorem dX8_edge_115 : decode cX8_edge 115 = .ok (.if_icmp .eq 8, 3) := by decide +kernel
theorem dX8_edge_118 : decode cX8_edge 118 = .ok (.iload 7, 2) := by decide +kernel
theorem dX8_edge_120 : decode cX8_edge 120 = .ok (.goto 5, 3) := by decide +kernel
theorem dX8_edge_123 : decode cX8_edge 123 = .ok (.bipush (-6), 2) := by decide +kernel
theorem dX8_edge_125 : decode cX8_edge 125 = .ok (.istore 4, 2) := by decide +kernel
theorem dX8_edge_127 : decode cX8_edge 127 = .ok (.iinc 6 1, 3) := by decide +kernel
theorem dX8_edge_130 : decode cX8_edge 130 = .ok (.goto (-70), 3) := by decide +kernel
theorem dX8_edge_133 : decode cX8_edge 133 = .ok (.iinc 5 1, 3) := by decide +kernel
theorem dX8_edge_136 : decode cX8_edge 136 = .ok (.goto (-90), 3) := by decide +kernel
theorem dX8_edge_139 : decode cX8_edge 139 = .ok (.aload_n 0, 1) := by decide +kernel
theorem dX8_edge_140 : decode cX8_edge 140 = .ok (.getfield 13, 3) := by decide +kernel
theorem dX8_edge_143 : decode cX8_edge 143 = .ok (.iload_n 1, 1) := by decide +kernel
theorem dX8_edge_144 : decode cX8_edge 144 = .ok (.iload_n 2, 1) := by decide +kernel
theorem dX8_edge_145 : decode cX8_edge 145 = .ok (.iastore, 1) := by decide +kernel
theorem dX8_edge_146 : decode cX8_edge 146 = .ok (.iload 4, 2) := by decide +kernel
theorem dX8_edge_148 : decode cX8_edge 148 = .ok (.ireturn, 1) := by decide +kernel
theorem dX8_told_0 : decode cX8_told 0 = .ok (.iload_n 1, 1) := by decide +kernel
theorem dX8_told_1 : decode cX8_told 1 = .ok (.i2l, 1) := by decide +kernel
theorem dX8_told_2 : decode cX8_told 2 = .ok (.ldc2_w 219, 3) := by decide +kernel
theorem dX8_told_5 : decode cX8_told 5 = .ok (.ldc2_w 221, 3) := by decide +kernel
theorem dX8_told_8 : decode cX8_told 8 = .ok (.invokestatic 83, 3) := by decide +kernel
theorem dX8_told_11 : decode cX8_told 11 = .ok (.ifCond .eq 13, 3) := by decide +kernel
theorem dX8_told_14 : decode cX8_told 14 = .ok (.aload_n 0, 1) := by decide +kernel
theorem dX8_told_15 : decode cX8_told 15 = .ok (.getfield 25, 3) := by decide +kernel
theorem dX8_told_18 : decode cX8_told 18 = .ok (.iload_n 1, 1) := by decide +kernel
theorem dX8_told_19 : decode cX8_told 19 = .ok (.bipush 10, 2) := by decide +kernel
theorem dX8_told_21 : decode cX8_told 21 = .ok (.isub, 1) := by decide +kernel
theorem dX8_told_22 : decode cX8_told 22 = .ok (.iaload, 1) := by decide +kernel
theorem dX8_told_23 : decode cX8_told 23 = .ok (.ireturn, 1) := by decide +kernel
theorem dX8_told_24 : decode cX8_told 24 = .ok (.iload_n 1, 1) := by decide +kernel
theorem dX8_told_25 : decode cX8_told 25 = .ok (.i2l, 1) := by decide +kernel
theorem dX8_told_26 : decode cX8_told 26 = .ok (.ldc2_w 223, 3) := by decide +kernel
theorem dX8_told_29 : decode cX8_told 29 = .ok (.ldc2_w 225, 3) := by decide +kernel
theorem dX8_told_32 : decode cX8_told 32 = .ok (.invokestatic 83, 3) := by decide +kernel
theorem dX8_told_35 : decode cX8_told 35 = .ok (.ifCond .eq 29, 3) := by decide +kernel
theorem dX8_told_38 : decode cX8_told 38 = .ok (.iload_n 1, 1) := by decide +kernel
theorem dX8_told_39 : decode cX8_told 39 = .ok (.bipush 20, 2) := by decide +kernel
theorem dX8_told_41 : decode cX8_told 41 = .ok (.isub, 1) := by decide +kernel
theorem dX8_told_42 : decode cX8_told 42 = .ok (.aload_n 0, 1) := by decide +kernel
theorem dX8_told_43 : decode cX8_told 43 = .ok (.getfield 96, 3) := by decide +kernel
theorem dX8_told_46 : decode cX8_told 46 = .ok (.if_icmp .ge 15, 3) := by decide +kernel
theorem dX8_told_49 : decode cX8_told 49 = .ok (.aload_n 0, 1) := by decide +kernel
theorem dX8_told_50 : decode cX8_told 50 = .ok (.getfield 7, 3) := by decide +kernel
theorem dX8_told_53 : decode cX8_told 53 = .ok (.iload_n 1, 1) := by decide +kernel
theorem dX8_told_54 : decode cX8_told 54 = .ok (.bipush 20, 2) := by decide +kernel
theorem dX8_told_56 : decode cX8_told 56 = .ok (.isub, 1) := by decide +kernel
theorem dX8_told_57 : decode cX8_told 57 = .ok (.iaload, 1) := by decide +kernel
theorem dX8_told_58 : decode cX8_told 58 = .ok (.goto 5, 3) := by decide +kernel
theorem dX8_told_61 : decode cX8_told 61 = .ok (.bipush (-6), 2) := by decide +kernel
theorem dX8_told_63 : decode cX8_told 63 = .ok (.ireturn, 1) := by decide +kernel
theorem dX8_told_64 : decode cX8_told 64 = .ok (.iload_n 1, 1) := by decide +kernel
theorem dX8_told_65 : decode cX8_told 65 = .ok (.i2l, 1) := by decide +kernel
theorem dX8_told_66 : decode cX8_told 66 = .ok (.ldc2_w 101, 3) := by decide +kernel
theorem dX8_told_69 : decode cX8_told 69 = .ok (.ldc2_w 227, 3) := by decide +kernel
theorem dX8_told_72 : decode cX8_told 72 = .ok (.invokestatic 83, 3) := by decide +kernel
theorem dX8_told_75 : decode cX8_told 75 = .ok (.ifCond .eq 41, 3) := by decide +kernel
theorem dX8_told_78 : decode cX8_told 78 = .ok (.iload_n 1, 1) := by decide +kernel
theorem dX8_told_79 : decode cX8_told 79 = .ok (.bipush 30, 2) := by decide +kernel
theorem dX8_told_81 : decode cX8_told 81 = .ok (.isub, 1) := by decide +kernel
theorem dX8_told_82 : decode cX8_told 82 = .ok (.aload_n 0, 1) := by decide +kernel
theorem dX8_told_83 : decode cX8_told 83 = .ok (.getfield 103, 3) := by decide +kernel
theorem dX8_told_86 : decode cX8_told 86 = .ok (.if_icmp .ge 27, 3) := by decide +kernel
theorem dX8_told_89 : decode cX8_told 89 = .ok (.aload_n 0, 1) := by decide +kernel
theorem dX8_told_90 : decode cX8_told 90 = .ok (.getfield 22, 3) := by decide +kernel
theorem dX8_told_93 : decode cX8_told 93 = .ok (.iload_n 1, 1) := by decide +kernel
theorem dX8_told_94 : decode cX8_told 94 = .ok (.bipush 30, 2) := by decide +kernel
theorem dX8_told_96 : decode cX8_told 96 = .ok (.isub, 1) := by decide +kernel
theorem dX8_told_97 : decode cX8_told 97 = .ok (.iaload, 1) := by decide +kernel
theorem dX8_told_98 : decode cX8_told 98 = .ok (.ifCond .lt 15, 3) := by decide +kernel
theorem dX8_told_101 : decode cX8_told 101 = .ok (.aload_n 0, 1) := by decide +kernel
theorem dX8_told_102 : decode cX8_told 102 = .ok (.getfield 22, 3) := by decide +kernel
theorem dX8_told_105 : decode cX8_told 105 = .ok (.iload_n 1, 1) := by decide +kernel
theorem dX8_told_106 : decode cX8_told 106 = .ok (.bipush 30, 2) := by decide +kernel
theorem dX8_told_108 : decode cX8_told 108 = .ok (.isub, 1) := by decide +kernel
theorem dX8_told_109 : decode cX8_told 109 = .ok (.iaload, 1) := by decide +kernel
theorem dX8_told_110 : decode cX8_told 110 = .ok (.goto 5, 3) := by decide +kernel
theorem dX8_told_113 : decode cX8_told 113 = .ok (.bipush (-6), 2) := by decide +kernel
theorem dX8_told_115 : decode cX8_told 115 = .ok (.ireturn, 1) := by decide +kernel
theorem dX8_told_116 : decode cX8_told 116 = .ok (.iload_n 1, 1) := by decide +kernel
theorem dX8_told_117 : decode cX8_told 117 = .ok (.tableswitch 69 0 5 #[39, 44, 49, 54, 59, 64], 39) := by decide +kernel
theorem dX8_told_156 : decode cX8_told 156 = .ok (.aload_n 0, 1) := by decide +kernel
theorem dX8_told_157 : decode cX8_told 157 = .ok (.getfield 75, 3) := by decide +kernel
theorem dX8_told_160 : decode cX8_told 160 = .ok (.ireturn, 1) := by decide +kernel
theorem dX8_told_161 : decode cX8_told 161 = .ok (.aload_n 0, 1) := by decide +kernel
theorem dX8_told_162 : decode cX8_told 162 = .ok (.getfield 78, 3) := by decide +kernel
theorem dX8_told_165 : decode cX8_told 165 = .ok (.ireturn, 1) := by decide +kernel
theorem dX8_told_166 : decode cX8_told 166 = .ok (.aload_n 0, 1) := by decide +kernel
theorem dX8_told_167 : decode cX8_told 167 = .ok (.getfield 93, 3) := by decide +kernel
theorem dX8_told_170 : decode cX8_told 170 = .ok (.ireturn, 1) := by decide +kernel
theorem dX8_told_171 : decode cX8_told 171 = .ok (.aload_n 0, 1) := by decide +kernel
theorem dX8_told_172 : decode cX8_told 172 = .ok (.getfield 96, 3) := by decide +kernel
theorem dX8_told_175 : decode cX8_told 175 = .ok (.ireturn, 1) := by decide +kernel
theorem dX8_told_176 : decode cX8_told 176 = .ok (.aload_n 0, 1) := by decide +kernel
theorem dX8_told_177 : decode cX8_told 177 = .ok (.getfield 103, 3) := by decide +kernel
theorem dX8_told_180 : decode cX8_told 180 = .ok (.ireturn, 1) := by decide +kernel
theorem dX8_told_181 : decode cX8_told 181 = .ok (.aload_n 0, 1) := by decide +kernel
theorem dX8_told_182 : decode cX8_told 182 = .ok (.getfield 185, 3) := by decide +kernel
theorem dX8_told_185 : decode cX8_told 185 = .ok (.ireturn, 1) := by decide +kernel
theorem dX8_told_186 : decode cX8_told 186 = .ok (.bipush (-2), 2) := by decide +kernel
theorem dX8_told_188 : decode cX8_told 188 = .ok (.ireturn, 1) := by decide +kernel
