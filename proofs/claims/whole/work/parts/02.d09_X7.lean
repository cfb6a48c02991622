theorem dX7_isPart_0 : decode cX7_isPart 0 = .ok (.iload_n 0, 1) := by decide +kernel
theorem dX7_isPart_1 : decode cX7_isPart 1 = .ok (.ifCond .eq 8, 3) := by decide +kernel
theorem dX7_isPart_4 : decode cX7_isPart 4 = .ok (.iload_n 0, 1) := by decide +kernel
theorem dX7_isPart_5 : decode cX7_isPart 5 = .ok (.iconst 1, 1) := by decide +kernel
theorem dX7_isPart_6 : decode cX7_isPart 6 = .ok (.if_icmp .ne 7, 3) := by decide +kernel
theorem dX7_isPart_9 : decode cX7_isPart 9 = .ok (.iconst 1, 1) := by decide +kernel
theorem dX7_isPart_10 : decode cX7_isPart 10 = .ok (.goto 4, 3) := by decide +kernel
theorem dX7_isPart_13 : decode cX7_isPart 13 = .ok (.iconst 0, 1) := by decide +kernel
theorem dX7_isPart_14 : decode cX7_isPart 14 = .ok (.ireturn, 1) := by decide +kernel
theorem dX7_isDay_0 : decode cX7_isDay 0 = .ok (.iload_n 1, 1) := by decide +kernel
theorem dX7_isDay_1 : decode cX7_isDay 1 = .ok (.iconst 0, 1) := by decide +kernel
theorem dX7_isDay_2 : decode cX7_isDay 2 = .ok (.aload_n 0, 1) := by decide +kernel
theorem dX7_isDay_3 : decode cX7_isDay 3 = .ok (.getfield 10, 3) := by decide +kernel
theorem dX7_isDay_6 : decode cX7_isDay 6 = .ok (.getfield 88, 3) := by decide +kernel
theorem dX7_isDay_9 : decode cX7_isDay 9 = .ok (.iconst 1, 1) := by decide +kernel
theorem dX7_isDay_10 : decode cX7_isDay 10 = .ok (.isub, 1) := by decide +kernel
theorem dX7_isDay_11 : decode cX7_isDay 11 = .ok (.invokestatic 81, 3) := by decide +kernel
theorem dX7_isDay_14 : decode cX7_isDay 14 = .ok (.ireturn, 1) := by decide +kernel
theorem dX7_refusalOf_0 : decode cX7_refusalOf 0 = .ok (.iload_n 1, 1) := by decide +kernel
theorem dX7_refusalOf_1 : decode cX7_refusalOf 1 = .ok (.ifCond .ne 6, 3) := by decide +kernel
theorem dX7_refusalOf_4 : decode cX7_refusalOf 4 = .ok (.bipush (-2), 2) := by decide +kernel
theorem dX7_refusalOf_6 : decode cX7_refusalOf 6 = .ok (.ireturn, 1) := by decide +kernel
theorem dX7_refusalOf_7 : decode cX7_refusalOf 7 = .ok (.aload_n 0, 1) := by decide +kernel
theorem dX7_refusalOf_8 : decode cX7_refusalOf 8 = .ok (.getfield 10, 3) := by decide +kernel
theorem dX7_refusalOf_11 : decode cX7_refusalOf 11 = .ok (.getfield 97, 3) := by decide +kernel
theorem dX7_refusalOf_14 : decode cX7_refusalOf 14 = .ok (.ifCond .ne 8, 3) := by decide +kernel
theorem dX7_refusalOf_17 : decode cX7_refusalOf 17 = .ok (.bipush (-3), 2) := by decide +kernel
theorem dX7_refusalOf_19 : decode cX7_refusalOf 19 = .ok (.goto 4, 3) := by decide +kernel
theorem dX7_refusalOf_22 : decode cX7_refusalOf 22 = .ok (.iconst 0, 1) := by decide +kernel
theorem dX7_refusalOf_23 : decode cX7_refusalOf 23 = .ok (.ireturn, 1) := by decide +kernel
theorem dX7_ruleRefusalOf_0 : decode cX7_ruleRefusalOf 0 = .ok (.aload_n 0, 1) := by decide +kernel
theorem dX7_ruleRefusalOf_1 : decode cX7_ruleRefusalOf 1 = .ok (.iload_n 1, 1) := by decide +kernel
theorem dX7_ruleRefusalOf_2 : decode cX7_ruleRefusalOf 2 = .ok (.invokevirtual 136, 3) := by decide +kernel
theorem dX7_ruleRefusalOf_5 : decode cX7_ruleRefusalOf 5 = .ok (.istore_n 2, 1) := by decide +kernel
theorem dX7_ruleRefusalOf_6 : decode cX7_ruleRefusalOf 6 = .ok (.iload_n 2, 1) := by decide +kernel
theorem dX7_ruleRefusalOf_7 : decode cX7_ruleRefusalOf 7 = .ok (.ifCond .ne 18, 3) := by decide +kernel
theorem dX7_ruleRefusalOf_10 : decode cX7_ruleRefusalOf 10 = .ok (.aload_n 0, 1) := by decide +kernel
theorem dX7_ruleRefusalOf_11 : decode cX7_ruleRefusalOf 11 = .ok (.getfield 67, 3) := by decide +kernel
theorem dX7_ruleRefusalOf_14 : decode cX7_ruleRefusalOf 14 = .ok (.getfield 234, 3) := by decide +kernel
theorem dX7_ruleRefusalOf_17 : decode cX7_ruleRefusalOf 17 = .ok (.ifCond .ne 8, 3) := by decide +kernel
theorem dX7_ruleRefusalOf_20 : decode cX7_ruleRefusalOf 20 = .ok (.bipush (-3), 2) := by decide +kernel
theorem dX7_ruleRefusalOf_22 : decode cX7_ruleRefusalOf 22 = .ok (.goto 4, 3) := by decide +kernel
theorem dX7_ruleRefusalOf_25 : decode cX7_ruleRefusalOf 25 = .ok (.iload_n 2, 1) := by decide +kernel
theorem dX7_ruleRefusalOf_26 : decode cX7_ruleRefusalOf 26 = .ok (.ireturn, 1) := by decide +kernel
theorem dX7_partOf_0 : decode cX7_partOf 0 = .ok (.lload_n 0, 1) := by decide +kernel
theorem dX7_partOf_1 : decode cX7_partOf 1 = .ok (.lstore 5, 2) := by decide +kernel
theorem dX7_partOf_3 : decode cX7_partOf 3 = .ok (.lload_n 2, 1) := by decide +kernel
theorem dX7_partOf_4 : decode cX7_partOf 4 = .ok (.lstore 7, 2) := by decide +kernel
theorem dX7_partOf_6 : decode cX7_partOf 6 = .ok (.iconst 0, 1) := by decide +kernel
theorem dX7_partOf_7 : decode cX7_partOf 7 = .ok (.istore 9, 2) := by decide +kernel
theorem dX7_partOf_9 : decode cX7_partOf 9 = .ok (.iload 9, 2) := by decide +kernel
theorem dX7_partOf_11 : decode cX7_partOf 11 = .ok (.bipush 64, 2) := by decide +kernel
theorem dX7_partOf_13 : decode cX7_partOf 13 = .ok (.if_icmp .ge 39, 3) := by decide +kernel
theorem dX7_partOf_16 : decode cX7_partOf 16 = .ok (.lload 5, 2) := by decide +kernel
theorem dX7_partOf_18 : decode cX7_partOf 18 = .ok (.lconst 1, 1) := by decide +kernel
theorem dX7_partOf_19 : decode cX7_partOf 19 = .ok (.land, 1) := by decide +kernel
theorem dX7_partOf_20 : decode cX7_partOf 20 = .ok (.lconst 0, 1) := by decide +kernel
theorem dX7_partOf_21 : decode cX7_partOf 21 = .ok (.lcmp, 1) := by decide +kernel
theorem dX7_partOf_22 : decode cX7_partOf 22 = .ok (.ifCond .ne 30, 3) := by decide +kernel
theorem dX7_partOf_25 : decode cX7_partOf 25 = .ok (.lload 7, 2) := by decide +kernel
theorem dX7_partOf_27 : decode cX7_partOf 27 = .ok (.lconst 1, 1) := by decide +kernel
theorem dX7_partOf_28 : decode cX7_partOf 28 = .ok (.land, 1) := by decide +kernel
theorem dX7_partOf_29 : decode cX7_partOf 29 = .ok (.lconst 0, 1) := by decide +kernel
theorem dX7_partOf_30 : decode cX7_partOf 30 = .ok (.lcmp, 1) := by decide +kernel
theorem dX7_partOf_31 : decode cX7_partOf 31 = .ok (.ifCond .ne 21, 3) := by decide +kernel
theorem dX7_partOf_34 : decode cX7_partOf 34 = .ok (.lload 5, 2) := by decide +kernel
theorem dX7_partOf_36 : decode cX7_partOf 36 = .ok (.iconst 1, 1) := by decide +kernel
theorem dX7_partOf_37 : decode cX7_partOf 37 = .ok (.lshr, 1) := by decide +kernel
theorem dX7_partOf_38 : decode cX7_partOf 38 = .ok (.lstore 5, 2) := by decide +kernel
theorem dX7_partOf_40 : decode cX7_partOf 40 = .ok (.lload 7, 2) := by decide +kernel
theorem dX7_partOf_42 : decode cX7_partOf 42 = .ok (.iconst 1, 1) := by decide +kernel
theorem dX7_partOf_43 : decode cX7_partOf 43 = .ok (.lshr, 1) := by decide +kernel
theorem dX7_partOf_44 : decode cX7_partOf 44 = .ok (.lstore 7, 2) := by decide +kernel
theorem dX7_partOf_46 : decode cX7_partOf 46 = .ok (.iinc 9 1, 3) := by decide +kernel
theorem dX7_partOf_49 : decode cX7_partOf 49 = .ok (.goto (-40), 3) := by decide +kernel
theorem dX7_partOf_52 : decode cX7_partOf 52 = .ok (.iload 4, 2) := by decide +kernel
theorem dX7_partOf_54 : decode cX7_partOf 54 = .ok (.ifCond .ne 8, 3) := by decide +kernel
theorem dX7_partOf_57 : decode cX7_partOf 57 = .ok (.lload 5, 2) := by decide +kernel
theorem dX7_partOf_59 : decode cX7_partOf 59 = .ok (.goto 5, 3) := by decide +kernel
theorem dX7_partOf_62 : decode cX7_partOf 62 = .ok (.lload 7, 2) := by decide +kernel
theorem dX7_partOf_64 : decode cX7_partOf 64 = .ok (.lreturn, 1) := by decide +kernel
theorem dX7_findBest_0 : decode cX7_findBest 0 = .ok (.aload_n 0, 1) := by decide +kernel
theorem dX7_findBest_1 : decode cX7_findBest 1 = .ok (.getfield 71, 3) := by decide +kernel
theorem dX7_findBest_4 : decode cX7_findBest 4 = .ok (.aload_n 0, 1) := by decide +kernel
theorem dX7_findBest_5 : decode cX7_findBest 5 = .ok (.getfield 10, 3) := by decide +kernel
theorem dX7_findBest_8 : decode cX7_findBest 8 = .ok (.getfield 94, 3) := by decide +kernel
theorem dX7_findBest_11 : decode cX7_findBest 11 = .ok (.if_icmp .eq 25, 3) := by decide +kernel
theorem dX7_findBest_14 : decode cX7_findBest 14 = .ok (.aload_n 0, 1) := by decide +kernel
theorem dX7_findBest_15 : decode cX7_findBest 15 = .ok (.getfield 23, 3) := by decide +kernel
theorem dX7_findBest_18 : decode cX7_findBest 18 = .ok (.aload_n 0, 1) := by decide +kernel
theorem dX7_findBest_19 : decode cX7_findBest 19 = .ok (.getfield 10, 3) := by decide +kernel
theorem dX7_findBest_22 : decode cX7_findBest 22 = .ok (.invokevirtual 238, 3) := by decide +kernel
theorem dX7_findBest_25 : decode cX7_findBest 25 = .ok (.aload_n 0, 1) := by decide +kernel
theorem dX7_findBest_26 : decode cX7_findBest 26 = .ok (.aload_n 0, 1) := by decide +kernel
theorem dX7_findBest_27 : decode cX7_findBest 27 = .ok (.getfield 10, 3) := by decide +kernel
theorem dX7_findBest_30 : decode cX7_findBest 30 = .ok (.getfield 94, 3) := by decide +kernel
theorem dX7_findBest_33 : decode cX7_findBest 33 = .ok (.putfield 71, 3) := by decide +kernel
theorem dX7_findBest_36 : decode cX7_findBest 36 = .ok (.return_, 1) := by decide +kernel
theorem dX7_findKept_0 : decode cX7_findKept 0 = .ok (.aload_n 0, 1) := by decide +kernel
theorem dX7_findKept_1 : decode cX7_findKept 1 = .ok (.getfield 75, 3) := by decide +kernel
theorem dX7_findKept_4 : decode cX7_findKept 4 = .ok (.aload_n 0, 1) := by decide +kernel
theorem dX7_findKept_5 : decode cX7_findKept 5 = .ok (.getfield 10, 3) := by decide +kernel
theorem dX7_findKept_8 : decode cX7_findKept 8 = .ok (.getfield 94, 3) := by decide +kernel
theorem dX7_findKept_11 : decode cX7_findKept 11 = .ok (.if_icmp .ne 4, 3) := by decide +kernel
theorem dX7_findKept_14 : decode cX7_findKept 14 = .ok (.return_, 1) := by decide +kernel
theorem dX7_findKept_15 : decode cX7_findKept 15 = .ok (.aload_n 0, 1) := by decide +kernel
theorem dX7_findKept_16 : decode cX7_findKept 16 = .ok (.getfield 47, 3) := by decide +kernel
theorem dX7_findKept_19 : decode cX7_findKept 19 = .ok (.invokevirtual 241, 3) := by decide +kernel
theorem dX7_findKept_22 : decode cX7_findKept 22 = .ok (.aload_n 0, 1) := by decide +kernel
theorem dX7_findKept_23 : decode cX7_findKept 23 = .ok (.getfield 51, 3) := by decide +kernel
theorem dX7_findKept_26 : decode cX7_findKept 26 = .ok (.invokevirtual 241, 3) := by decide +kernel
theorem dX7_findKept_29 : decode cX7_findKept 29 = .ok (.aload_n 0, 1) := by decide +kernel
theorem dX7_findKept_30 : decode cX7_findKept 30 = .ok (.getfield 40, 3) := by decide +kernel
theorem dX7_findKept_33 : decode cX7_findKept 33 = .ok (.invokevirtual 244, 3) := by decide +kernel
theorem dX7_findKept_36 : decode cX7_findKept 36 = .ok (.istore_n 1, 1) := by decide +kernel
theorem dX7_findKept_37 : decode cX7_findKept 37 = .ok (.iconst 0, 1) := by decide +kernel
theorem dX7_findKept_38 : decode cX7_findKept 38 = .ok (.istore_n 2, 1) := by decide +kernel
theorem dX7_findKept_39 : decode cX7_findKept 39 = .ok (.iload_n 2, 1) := by decide +kernel
theorem dX7_findKept_40 : decode cX7_findKept 40 = .ok (.sipush 210, 3) := by decide +kernel
theorem dX7_findKept_43 : decode cX7_findKept 43 = .ok (.if_icmp .ge 116, 3) := by decide +kernel
theorem dX7_findKept_46 : decode cX7_findKept 46 = .ok (.iload_n 1, 1) := by decide +kernel
theorem dX7_findKept_47 : decode cX7_findKept 47 = .ok (.bipush (-6), 2) := by decide +kernel
theorem dX7_findKept_49 : decode cX7_findKept 49 = .ok (.if_icmp .eq 110, 3) := by decide +kernel
theorem dX7_findKept_52 : decode cX7_findKept 52 = .ok (.aload_n 0, 1) := by decide +kernel
theorem dX7_findKept_53 : decode cX7_findKept 53 = .ok (.getfield 33, 3) := by decide +kernel
theorem dX7_findKept_56 : decode cX7_findKept 56 = .ok (.aload_n 0, 1) := by decide +kernel
theorem dX7_findKept_57 : decode cX7_findKept 57 = .ok (.getfield 10, 3) := by decide +kernel
theorem dX7_findKept_60 : decode cX7_findKept 60 = .ok (.aload_n 0, 1) := by decide +kernel
theorem dX7_findKept_61 : decode cX7_findKept 61 = .ok (.getfield 40, 3) := by decide +kernel
theorem dX7_findKept_64 : decode cX7_findKept 64 = .ok (.getfield 247, 3) := by decide +kernel
theorem dX7_findKept_67 : decode cX7_findKept 67 = .ok (.iload_n 1, 1) := by decide +kernel
theorem dX7_findKept_68 : decode cX7_findKept 68 = .ok (.invokevirtual 142, 3) := by decide +kernel
theorem dX7_findKept_71 : decode cX7_findKept 71 = .ok (.aload_n 0, 1) := by decide +kernel
theorem dX7_findKept_72 : decode cX7_findKept 72 = .ok (.getfield 33, 3) := by decide +kernel
theorem dX7_findKept_75 : decode cX7_findKept 75 = .ok (.aload_n 0, 1) := by decide +kernel
theorem dX7_findKept_76 : decode cX7_findKept 76 = .ok (.getfield 10, 3) := by decide +kernel
theorem dX7_findKept_79 : decode cX7_findKept 79 = .ok (.invokevirtual 146, 3) := by decide +kernel
theorem dX7_findKept_82 : decode cX7_findKept 82 = .ok (.lstore_n 3, 1) := by decide +kernel
theorem dX7_findKept_83 : decode cX7_findKept 83 = .ok (.aload_n 0, 1) := by decide +kernel
theorem dX7_findKept_84 : decode cX7_findKept 84 = .ok (.getfield 47, 3) := by decide +kernel
theorem dX7_findKept_87 : decode cX7_findKept 87 = .ok (.lload_n 3, 1) := by decide +kernel
theorem dX7_findKept_88 : decode cX7_findKept 88 = .ok (.aload_n 0, 1) := by decide +kernel
theorem dX7_findKept_89 : decode cX7_findKept 89 = .ok (.getfield 40, 3) := by decide +kernel
theorem dX7_findKept_92 : decode cX7_findKept 92 = .ok (.getfield 247, 3) := by decide +kernel
theorem dX7_findKept_95 : decode cX7_findKept 95 = .ok (.invokevirtual 248, 3) := by decide +kernel
theorem dX7_findKept_98 : decode cX7_findKept 98 = .ok (.aload_n 0, 1) := by decide +kernel
theorem dX7_findKept_99 : decode cX7_findKept 99 = .ok (.getfield 40, 3) := by decide +kernel
theorem dX7_findKept_102 : decode cX7_findKept 102 = .ok (.aload_n 0, 1) := by decide +kernel
theorem dX7_findKept_103 : decode cX7_findKept 103 = .ok (.getfield 10, 3) := by decide +kernel
theorem dX7_findKept_106 : decode cX7_findKept 106 = .ok (.getfield 88, 3) := by decide +kernel
theorem dX7_findKept_109 : decode cX7_findKept 109 = .ok (.invokevirtual 252, 3) := by decide +kernel
theorem dX7_findKept_112 : decode cX7_findKept 112 = .ok (.iconst 1, 1) := by decide +kernel
theorem dX7_findKept_113 : decode cX7_findKept 113 = .ok (.if_icmp .gt 18, 3) := by decide +kernel
theorem dX7_findKept_116 : decode cX7_findKept 116 = .ok (.aload_n 0, 1) := by decide +kernel
theorem dX7_findKept_117 : decode cX7_findKept 117 = .ok (.getfield 51, 3) := by decide +kernel
theorem dX7_findKept_120 : decode cX7_findKept 120 = .ok (.lload_n 3, 1) := by decide +kernel
theorem dX7_findKept_121 : decode cX7_findKept 121 = .ok (.aload_n 0, 1) := by decide +kernel
theorem dX7_findKept_122 : decode cX7_findKept 122 = .ok (.getfield 40, 3) := by decide +kernel
theorem dX7_findKept_125 : decode cX7_findKept 125 = .ok (.getfield 247, 3) := by decide +kernel
theorem dX7_findKept_128 : decode cX7_findKept 128 = .ok (.invokevirtual 248, 3) := by decide +kernel
theorem dX7_findKept_131 : decode cX7_findKept 131 = .ok (.aload_n 0, 1) := by decide +kernel
theorem dX7_findKept_132 : decode cX7_findKept 132 = .ok (.getfield 40, 3) := by decide +kernel
theorem dX7_findKept_135 : decode cX7_findKept 135 = .ok (.aload_n 0, 1) := by decide +kernel
theorem dX7_findKept_136 : decode cX7_findKept 136 = .ok (.getfield 10, 3) := by decide +kernel
theorem dX7_findKept_139 : decode cX7_findKept 139 = .ok (.getfield 88, 3) := by decide +kernel
theorem dX7_findKept_142 : decode cX7_findKept 142 = .ok (.aload_n 0, 1) := by decide +kernel
theorem dX7_findKept_143 : decode cX7_findKept 143 = .ok (.getfield 10, 3) := by decide +kernel
theorem dX7_findKept_146 : decode cX7_findKept 146 = .ok (.getfield 97, 3) := by decide +kernel
theorem dX7_findKept_149 : decode cX7_findKept 149 = .ok (.invokevirtual 255, 3) := by decide +kernel
theorem dX7_findKept_152 : decode cX7_findKept 152 = .ok (.istore_n 1, 1) := by decide +kernel
theorem dX7_findKept_153 : decode cX7_findKept 153 = .ok (.iinc 2 1, 3) := by decide +kernel
theorem dX7_findKept_156 : decode cX7_findKept 156 = .ok (.goto (-117), 3) := by decide +kernel
theorem dX7_findKept_159 : decode cX7_findKept 159 = .ok (.aload_n 0, 1) := by decide +kernel
theorem dX7_findKept_160 : decode cX7_findKept 160 = .ok (.aload_n 0, 1) := by decide +kernel
theorem dX7_findKept_161 : decode cX7_findKept 161 = .ok (.getfield 10, 3) := by decide +kernel
theorem dX7_findKept_164 : decode cX7_findKept 164 = .ok (.getfield 94, 3) := by decide +kernel
theorem dX7_findKept_167 : decode cX7_findKept 167 = .ok (.putfield 75, 3) := by decide +kernel
theorem dX7_findKept_170 : decode cX7_findKept 170 = .ok (.return_, 1) := by decide +kernel
theorem dX7_findMet_0 : decode cX7_findMet 0 = .ok (.aload_n 0, 1) := by decide +kernel
theorem dX7_findMet_1 : decode cX7_findMet 1 = .ok (.getfield 78, 3) := by decide +kernel
theorem dX7_findMet_4 : decode cX7_findMet 4 = .ok (.aload_n 0, 1) := by decide +kernel
theorem dX7_findMet_5 : decode cX7_findMet 5 = .ok (.getfield 10, 3) := by decide +kernel
theorem dX7_findMet_8 : decode cX7_findMet 8 = .ok (.getfield 94, 3) := by decide +kernel
theorem dX7_findMet_11 : decode cX7_findMet 11 = .ok (.if_icmp .ne 4, 3) := by decide +kernel
theorem dX7_findMet_14 : decode cX7_findMet 14 = .ok (.return_, 1) := by decide +kernel
theorem dX7_findMet_15 : decode cX7_findMet 15 = .ok (.aload_n 0, 1) := by decide +kernel
theorem dX7_findMet_16 : decode cX7_findMet 16 = .ok (.getfield 54, 3) := by decide +kernel
theorem dX7_findMet_19 : decode cX7_findMet 19 = .ok (.invokevirtual 241, 3) := by decide +kernel
theorem dX7_findMet_22 : decode cX7_findMet 22 = .ok (.aload_n 0, 1) := by decide +kernel
theorem dX7_findMet_23 : decode cX7_findMet 23 = .ok (.getfield 40, 3) := by decide +kernel
theorem dX7_findMet_26 : decode cX7_findMet 26 = .ok (.invokevirtual 244, 3) := by decide +kernel
theorem dX7_findMet_29 : decode cX7_findMet 29 = .ok (.istore_n 1, 1) := by decide +kernel
theorem dX7_findMet_30 : decode cX7_findMet 30 = .ok (.iconst 0, 1) := by decide +kernel
theorem dX7_findMet_31 : decode cX7_findMet 31 = .ok (.istore_n 2, 1) := by decide +kernel
theorem dX7_findMet_32 : decode cX7_findMet 32 = .ok (.iload_n 2, 1) := by decide +kernel
theorem dX7_findMet_33 : decode cX7_findMet 33 = .ok (.sipush 210, 3) := by decide +kernel
theorem dX7_findMet_36 : decode cX7_findMet 36 = .ok (.if_icmp .ge 80, 3) := by decide +kernel
theorem dX7_findMet_39 : decode cX7_findMet 39 = .ok (.iload_n 1, 1) := by decide +kernel
theorem dX7_findMet_40 : decode cX7_findMet 40 = .ok (.bipush (-6), 2) := by decide +kernel
theorem dX7_findMet_42 : decode cX7_findMet 42 = .ok (.if_icmp .eq 74, 3) := by decide +kernel
theorem dX7_findMet_45 : decode cX7_findMet 45 = .ok (.aload_n 0, 1) := by decide +kernel
theorem dX7_findMet_46 : decode cX7_findMet 46 = .ok (.getfield 33, 3) := by decide +kernel
theorem dX7_findMet_49 : decode cX7_findMet 49 = .ok (.aload_n 0, 1) := by decide +kernel
theorem dX7_findMet_50 : decode cX7_findMet 50 = .ok (.getfield 10, 3) := by decide +kernel
theorem dX7_findMet_53 : decode cX7_findMet 53 = .ok (.aload_n 0, 1) := by decide +kernel
theorem dX7_findMet_54 : decode cX7_findMet 54 = .ok (.getfield 40, 3) := by decide +kernel
theorem dX7_findMet_57 : decode cX7_findMet 57 = .ok (.getfield 247, 3) := by decide +kernel
theorem dX7_findMet_60 : decode cX7_findMet 60 = .ok (.invokevirtual 258, 3) := by decide +kernel
theorem dX7_findMet_63 : decode cX7_findMet 63 = .ok (.aload_n 0, 1) := by decide +kernel
theorem dX7_findMet_64 : decode cX7_findMet 64 = .ok (.getfield 54, 3) := by decide +kernel
theorem dX7_findMet_67 : decode cX7_findMet 67 = .ok (.aload_n 0, 1) := by decide +kernel
theorem dX7_findMet_68 : decode cX7_findMet 68 = .ok (.getfield 33, 3) := by decide +kernel
theorem dX7_findMet_71 : decode cX7_findMet 71 = .ok (.aload_n 0, 1) := by decide +kernel
theorem dX7_findMet_72 : decode cX7_findMet 72 = .ok (.getfield 10, 3) := by decide +kernel
theorem dX7_findMet_75 : decode cX7_findMet 75 = .ok (.invokevirtual 146, 3) := by decide +kernel
theorem dX7_findMet_78 : decode cX7_findMet 78 = .ok (.aload_n 0, 1) := by decide +kernel
theorem dX7_findMet_79 : decode cX7_findMet 79 = .ok (.getfield 40, 3) := by decide +kernel
theorem dX7_findMet_82 : decode cX7_findMet 82 = .ok (.getfield 247, 3) := by decide +kernel
theorem dX7_findMet_85 : decode cX7_findMet 85 = .ok (.invokevirtual 248, 3) := by decide +kernel
theorem dX7_findMet_88 : decode cX7_findMet 88 = .ok (.aload_n 0, 1) := by decide +kernel
theorem dX7_findMet_89 : decode cX7_findMet 89 = .ok (.getfield 40, 3) := by decide +kernel
theorem dX7_findMet_92 : decode cX7_findMet 92 = .ok (.aload_n 0, 1) := by decide +kernel
theorem dX7_findMet_93 : decode cX7_findMet 93 = .ok (.getfield 10, 3) := by decide +kernel
theorem dX7_findMet_96 : decode cX7_findMet 96 = .ok (.getfield 88, 3) := by decide +kernel
theorem dX7_findMet_99 : decode cX7_findMet 99 = .ok (.aload_n 0, 1) := by decide +kernel
theorem dX7_findMet_100 : decode cX7_findMet 100 = .ok (.getfield 10, 3) := by decide +kernel
theorem dX7_findMet_103 : decode cX7_findMet 103 = .ok (.getfield 97, 3) := by decide +kernel
theorem dX7_findMet_106 : decode cX7_findMet 106 = .ok (.invokevirtual 255, 3) := by decide +kernel
theorem dX7_findMet_109 : decode cX7_findMet 109 = .ok (.istore_n 1, 1) := by decide +kernel
theorem dX7_findMet_110 : decode cX7_findMet 110 = .ok (.iinc 2 1, 3) := by decide +kernel
theorem dX7_findMet_113 : decode cX7_findMet 113 = .ok (.goto (-81), 3) := by decide +kernel
theorem dX7_findMet_116 : decode cX7_findMet 116 = .ok (.aload_n 0, 1) := by decide +kernel
theorem dX7_findMet_117 : decode cX7_findMet 117 = .ok (.aload_n 0, 1) := by decide +kernel
theorem dX7_findMet_118 : decode cX7_findMet 118 = .ok (.getfield 10, 3) := by decide +kernel
theorem dX7_findMet_121 : decode cX7_findMet 121 = .ok (.getfield 94, 3) := by decide +kernel
theorem dX7_findMet_124 : decode cX7_findMet 124 = .ok (.putfield 78, 3) := by decide +kernel
theorem dX7_findMet_127 : decode cX7_findMet 127 = .ok (.return_, 1) := by decide +kernel
theorem dX7_findBoy_0 : decode cX7_findBoy 0 = .ok (.aload_n 0, 1) := by decide +kernel
theorem dX7_findBoy_1 : decode cX7_findBoy 1 = .ok (.getfield 27, 3) := by decide +kernel
theorem dX7_findBoy_4 : decode cX7_findBoy 4 = .ok (.aload_n 0, 1) := by decide +kernel
theorem dX7_findBoy_5 : decode cX7_findBoy 5 = .ok (.getfield 67, 3) := by decide +kernel
theorem dX7_findBoy_8 : decode cX7_findBoy 8 = .ok (.aload_n 0, 1) := by decide +kernel
theorem dX7_findBoy_9 : decode cX7_findBoy 9 = .ok (.getfield 10, 3) := by decide +kernel
theorem dX7_findBoy_12 : decode cX7_findBoy 12 = .ok (.getfield 97, 3) := by decide +kernel
theorem dX7_findBoy_15 : decode cX7_findBoy 15 = .ok (.invokevirtual 262, 3) := by decide +kernel
theorem dX7_findBoy_18 : decode cX7_findBoy 18 = .ok (.aload_n 0, 1) := by decide +kernel
theorem dX7_findBoy_19 : decode cX7_findBoy 19 = .ok (.getfield 27, 3) := by decide +kernel
theorem dX7_findBoy_22 : decode cX7_findBoy 22 = .ok (.aload_n 0, 1) := by decide +kernel
theorem dX7_findBoy_23 : decode cX7_findBoy 23 = .ok (.getfield 10, 3) := by decide +kernel
theorem dX7_findBoy_26 : decode cX7_findBoy 26 = .ok (.invokevirtual 192, 3) := by decide +kernel
theorem dX7_findBoy_29 : decode cX7_findBoy 29 = .ok (.return_, 1) := by decide +kernel
theorem dX7_promised_0 : decode cX7_promised 0 = .ok (.iload_n 1, 1) := by decide +kernel
theorem dX7_promised_1 : decode cX7_promised 1 = .ok (.iconst 2, 1) := by decide +kernel
theorem dX7_promised_2 : decode cX7_promised 2 = .ok (.if_icmp .ne 12, 3) := by decide +kernel
theorem dX7_promised_5 : decode cX7_promised 5 = .ok (.aload_n 0, 1) := by decide +kernel
theorem dX7_promised_6 : decode cX7_promised 6 = .ok (.invokevirtual 266, 3) := by decide +kernel
theorem dX7_promised_9 : decode cX7_promised 9 = .ok (.aload_n 0, 1) := by decide +kernel
theorem dX7_promised_10 : decode cX7_promised 10 = .ok (.getfield 54, 3) := by decide +kernel
theorem dX7_promised_13 : decode cX7_promised 13 = .ok (.areturn, 1) := by decide +kernel
theorem dX7_promised_14 : decode cX7_promised 14 = .ok (.aload_n 0, 1) := by decide +kernel
theorem dX7_promised_15 : decode cX7_promised 15 = .ok (.invokevirtual 185, 3) := by decide +kernel
theorem dX7_promised_18 : decode cX7_promised 18 = .ok (.iload_n 1, 1) := by decide +kernel
theorem dX7_promised_19 : decode cX7_promised 19 = .ok (.iconst 1, 1) := by decide +kernel
theorem dX7_promised_20 : decode cX7_promised 20 = .ok (.if_icmp .ne 10, 3) := by decide +kernel
theorem dX7_promised_23 : decode cX7_promised 23 = .ok (.aload_n 0, 1) := by decide +kernel
theorem dX7_promised_24 : decode cX7_promised 24 = .ok (.getfield 51, 3) := by decide +kernel
theorem dX7_promised_27 : decode cX7_promised 27 = .ok (.goto 7, 3) := by decide +kernel
theorem dX7_promised_30 : decode cX7_promised 30 = .ok (.aload_n 0, 1) := by decide +kernel
theorem dX7_promised_31 : decode cX7_promised 31 = .ok (.getfield 47, 3) := by decide +kernel
theorem dX7_promised_34 : decode cX7_promised 34 = .ok (.areturn, 1) := by decide +kernel
theorem dX7_promiseMean_0 : decode cX7_promiseMean 0 = .ok (.iload_n 1, 1) := by decide +kernel
theorem dX7_promiseMean_1 : decode cX7_promiseMean 1 = .ok (.iconst 4, 1) := by decide +kernel
theorem dX7_promiseMean_2 : decode cX7_promiseMean 2 = .ok (.if_icmp .ne 30, 3) := by decide +kernel
theorem dX7_promiseMean_5 : decode cX7_promiseMean 5 = .ok (.aload_n 0, 1) := by decide +kernel
theorem dX7_promiseMean_6 : decode cX7_promiseMean 6 = .ok (.getfield 33, 3) := by decide +kernel
theorem dX7_promiseMean_9 : decode cX7_promiseMean 9 = .ok (.aload_n 0, 1) := by decide +kernel
theorem dX7_promiseMean_10 : decode cX7_promiseMean 10 = .ok (.getfield 10, 3) := by decide +kernel
theorem dX7_promiseMean_13 : decode cX7_promiseMean 13 = .ok (.aload_n 0, 1) := by decide +kernel
theorem dX7_promiseMean_14 : decode cX7_promiseMean 14 = .ok (.getfield 16, 3) := by decide +kernel
theorem dX7_promiseMean_17 : decode cX7_promiseMean 17 = .ok (.invokevirtual 258, 3) := by decide +kernel
theorem dX7_promiseMean_20 : decode cX7_promiseMean 20 = .ok (.aload_n 0, 1) := by decide +kernel
theorem dX7_promiseMean_21 : decode cX7_promiseMean 21 = .ok (.getfield 33, 3) := by decide +kernel
theorem dX7_promiseMean_24 : decode cX7_promiseMean 24 = .ok (.aload_n 0, 1) := by decide +kernel
theorem dX7_promiseMean_25 : decode cX7_promiseMean 25 = .ok (.getfield 10, 3) := by decide +kernel
theorem dX7_promiseMean_28 : decode cX7_promiseMean 28 = .ok (.invokevirtual 146, 3) := by decide +kernel
theorem dX7_promiseMean_31 : decode cX7_promiseMean 31 = .ok (.lreturn, 1) := by decide +kernel
theorem dX7_promiseMean_32 : decode cX7_promiseMean 32 = .ok (.iload_n 1, 1) := by decide +kernel
theorem dX7_promiseMean_33 : decode cX7_promiseMean 33 = .ok (.iconst 2, 1) := by decide +kernel
theorem dX7_promiseMean_34 : decode cX7_promiseMean 34 = .ok (.if_icmp .ne 15, 3) := by decide +kernel
theorem dX7_promiseMean_37 : decode cX7_promiseMean 37 = .ok (.aload_n 0, 1) := by decide +kernel
theorem dX7_promiseMean_38 : decode cX7_promiseMean 38 = .ok (.invokevirtual 266, 3) := by decide +kernel
theorem dX7_promiseMean_41 : decode cX7_promiseMean 41 = .ok (.aload_n 0, 1) := by decide +kernel
theorem dX7_promiseMean_42 : decode cX7_promiseMean 42 = .ok (.getfield 54, 3) := by decide +kernel
theorem dX7_promiseMean_45 : decode cX7_promiseMean 45 = .ok (.getfield 269, 3) := by decide +kernel
theorem dX7_promiseMean_48 : decode cX7_promiseMean 48 = .ok (.lreturn, 1) := by decide +kernel
theorem dX7_promiseMean_49 : decode cX7_promiseMean 49 = .ok (.aload_n 0, 1) := by decide +kernel
theorem dX7_promiseMean_50 : decode cX7_promiseMean 50 = .ok (.invokevirtual 185, 3) := by decide +kernel
theorem dX7_promiseMean_53 : decode cX7_promiseMean 53 = .ok (.iload_n 1, 1) := by decide +kernel
theorem dX7_promiseMean_54 : decode cX7_promiseMean 54 = .ok (.iconst 3, 1) := by decide +kernel
theorem dX7_promiseMean_55 : decode cX7_promiseMean 55 = .ok (.if_icmp .ne 33, 3) := by decide +kernel
theorem dX7_promiseMean_58 : decode cX7_promiseMean 58 = .ok (.aload_n 0, 1) := by decide +kernel
theorem dX7_promiseMean_59 : decode cX7_promiseMean 59 = .ok (.invokevirtual 165, 3) := by decide +kernel
theorem dX7_promiseMean_62 : decode cX7_promiseMean 62 = .ok (.aload_n 0, 1) := by decide +kernel
theorem dX7_promiseMean_63 : decode cX7_promiseMean 63 = .ok (.getfield 23, 3) := by decide +kernel
theorem dX7_promiseMean_66 : decode cX7_promiseMean 66 = .ok (.getfield 172, 3) := by decide +kernel
theorem dX7_promiseMean_69 : decode cX7_promiseMean 69 = .ok (.iconst 0, 1) := by decide +kernel
theorem dX7_promiseMean_70 : decode cX7_promiseMean 70 = .ok (.aaload, 1) := by decide +kernel
theorem dX7_promiseMean_71 : decode cX7_promiseMean 71 = .ok (.aload_n 0, 1) := by decide +kernel
theorem dX7_promiseMean_72 : decode cX7_promiseMean 72 = .ok (.getfield 10, 3) := by decide +kernel
theorem dX7_promiseMean_75 : decode cX7_promiseMean 75 = .ok (.getfield 85, 3) := by decide +kernel
theorem dX7_promiseMean_78 : decode cX7_promiseMean 78 = .ok (.laload, 1) := by decide +kernel
theorem dX7_promiseMean_79 : decode cX7_promiseMean 79 = .ok (.aload_n 0, 1) := by decide +kernel
theorem dX7_promiseMean_80 : decode cX7_promiseMean 80 = .ok (.getfield 47, 3) := by decide +kernel
theorem dX7_promiseMean_83 : decode cX7_promiseMean 83 = .ok (.getfield 269, 3) := by decide +kernel
theorem dX7_promiseMean_86 : decode cX7_promiseMean 86 = .ok (.lsub, 1) := by decide +kernel
theorem dX7_promiseMean_87 : decode cX7_promiseMean 87 = .ok (.lreturn, 1) := by decide +kernel
theorem dX7_promiseMean_88 : decode cX7_promiseMean 88 = .ok (.iload_n 1, 1) := by decide +kernel
theorem dX7_promiseMean_89 : decode cX7_promiseMean 89 = .ok (.iconst 1, 1) := by decide +kernel
theorem dX7_promiseMean_90 : decode cX7_promiseMean 90 = .ok (.if_icmp .ne 13, 3) := by decide +kernel
theorem dX7_promiseMean_93 : decode cX7_promiseMean 93 = .ok (.aload_n 0, 1) := by decide +kernel
theorem dX7_promiseMean_94 : decode cX7_promiseMean 94 = .ok (.getfield 51, 3) := by decide +kernel
theorem dX7_promiseMean_97 : decode cX7_promiseMean 97 = .ok (.getfield 269, 3) := by decide +kernel
theorem dX7_promiseMean_100 : decode cX7_promiseMean 100 = .ok (.goto 10, 3) := by decide +kernel
theorem dX7_promiseMean_103 : decode cX7_promiseMean 103 = .ok (.aload_n 0, 1) := by decide +kernel
theorem dX7_promiseMean_104 : decode cX7_promiseMean 104 = .ok (.getfield 47, 3) := by decide +kernel
theorem dX7_promiseMean_107 : decode cX7_promiseMean 107 = .ok (.getfield 269, 3) := by decide +kernel
theorem dX7_promiseMean_110 : decode cX7_promiseMean 110 = .ok (.lreturn, 1) := by decide +kernel
theorem dX7_isOtherWith_0 : decode cX7_isOtherWith 0 = .ok (.aload_n 0, 1) := by decide +kernel
theorem dX7_isOtherWith_1 : decode cX7_isOtherWith 1 = .ok (.invokevirtual 165, 3) := by decide +kernel
theorem dX7_isOtherWith_4 : decode cX7_isOtherWith 4 = .ok (.aload_n 0, 1) := by decide +kernel
theorem dX7_isOtherWith_5 : decode cX7_isOtherWith 5 = .ok (.getfield 10, 3) := by decide +kernel
theorem dX7_isOtherWith_8 : decode cX7_isOtherWith 8 = .ok (.getfield 106, 3) := by decide +kernel
theorem dX7_isOtherWith_11 : decode cX7_isOtherWith 11 = .ok (.iload_n 1, 1) := by decide +kernel
theorem dX7_isOtherWith_12 : decode cX7_isOtherWith 12 = .ok (.iaload, 1) := by decide +kernel
theorem dX7_isOtherWith_13 : decode cX7_isOtherWith 13 = .ok (.istore_n 3, 1) := by decide +kernel
theorem dX7_isOtherWith_14 : decode cX7_isOtherWith 14 = .ok (.aload_n 0, 1) := by decide +kernel
theorem dX7_isOtherWith_15 : decode cX7_isOtherWith 15 = .ok (.getfield 10, 3) := by decide +kernel
theorem dX7_isOtherWith_18 : decode cX7_isOtherWith 18 = .ok (.getfield 106, 3) := by decide +kernel
theorem dX7_isOtherWith_21 : decode cX7_isOtherWith 21 = .ok (.iload_n 1, 1) := by decide +kernel
theorem dX7_isOtherWith_22 : decode cX7_isOtherWith 22 = .ok (.iload_n 2, 1) := by decide +kernel
theorem dX7_isOtherWith_23 : decode cX7_isOtherWith 23 = .ok (.iastore, 1) := by decide +kernel
theorem dX7_isOtherWith_24 : decode cX7_isOtherWith 24 = .ok (.aload_n 0, 1) := by decide +kernel
theorem dX7_isOtherWith_25 : decode cX7_isOtherWith 25 = .ok (.getfield 27, 3) := by decide +kernel
theorem dX7_isOtherWith_28 : decode cX7_isOtherWith 28 = .ok (.aload_n 0, 1) := by decide +kernel
theorem dX7_isOtherWith_29 : decode cX7_isOtherWith 29 = .ok (.getfield 10, 3) := by decide +kernel
theorem dX7_isOtherWith_32 : decode cX7_isOtherWith 32 = .ok (.invokevirtual 238, 3) := by decide +kernel
theorem dX7_isOtherWith_35 : decode cX7_isOtherWith 35 = .ok (.aload_n 0, 1) := by decide +kernel
theorem dX7_isOtherWith_36 : decode cX7_isOtherWith 36 = .ok (.getfield 10, 3) := by decide +kernel
theorem dX7_isOtherWith_39 : decode cX7_isOtherWith 39 = .ok (.getfield 106, 3) := by decide +kernel
theorem dX7_isOtherWith_42 : decode cX7_isOtherWith 42 = .ok (.iload_n 1, 1) := by decide +kernel
theorem dX7_isOtherWith_43 : decode cX7_isOtherWith 43 = .ok (.iload_n 3, 1) := by decide +kernel
theorem dX7_isOtherWith_44 : decode cX7_isOtherWith 44 = .ok (.iastore, 1) := by decide +kernel
theorem dX7_isOtherWith_45 : decode cX7_isOtherWith 45 = .ok (.aload_n 0, 1) := by decide +kernel
theorem dX7_isOtherWith_46 : decode cX7_isOtherWith 46 = .ok (.getfield 27, 3) := by decide +kernel
theorem dX7_isOtherWith_49 : decode cX7_isOtherWith 49 = .ok (.getfield 168, 3) := by decide +kernel
theorem dX7_isOtherWith_52 : decode cX7_isOtherWith 52 = .ok (.iconst 0, 1) := by decide +kernel
theorem dX7_isOtherWith_53 : decode cX7_isOtherWith 53 = .ok (.aaload, 1) := by decide +kernel
theorem dX7_isOtherWith_54 : decode cX7_isOtherWith 54 = .ok (.aload_n 0, 1) := by decide +kernel
theorem dX7_isOtherWith_55 : decode cX7_isOtherWith 55 = .ok (.getfield 10, 3) := by decide +kernel
theorem dX7_isOtherWith_58 : decode cX7_isOtherWith 58 = .ok (.getfield 85, 3) := by decide +kernel
theorem dX7_isOtherWith_61 : decode cX7_isOtherWith 61 = .ok (.iaload, 1) := by decide +kernel
theorem dX7_isOtherWith_62 : decode cX7_isOtherWith 62 = .ok (.aload_n 0, 1) := by decide +kernel
theorem dX7_isOtherWith_63 : decode cX7_isOtherWith 63 = .ok (.getfield 23, 3) := by decide +kernel
theorem dX7_isOtherWith_66 : decode cX7_isOtherWith 66 = .ok (.getfield 168, 3) := by decide +kernel
theorem dX7_isOtherWith_69 : decode cX7_isOtherWith 69 = .ok (.iconst 0, 1) := by decide +kernel
theorem dX7_isOtherWith_70 : decode cX7_isOtherWith 70 = .ok (.aaload, 1) := by decide +kernel
theorem dX7_isOtherWith_71 : decode cX7_isOtherWith 71 = .ok (.aload_n 0, 1) := by decide +kernel
theorem dX7_isOtherWith_72 : decode cX7_isOtherWith 72 = .ok (.getfield 10, 3) := by decide +kernel
theorem dX7_isOtherWith_75 : decode cX7_isOtherWith 75 = .ok (.getfield 85, 3) := by decide +kernel
theorem dX7_isOtherWith_78 : decode cX7_isOtherWith 78 = .ok (.iaload, 1) := by decide +kernel
theorem dX7_isOtherWith_79 : decode cX7_isOtherWith 79 = .ok (.if_icmp .eq 7, 3) := by decide +kernel
theorem dX7_isOtherWith_82 : decode cX7_isOtherWith 82 = .ok (.iconst 1, 1) := by decide +kernel
theorem dX7_isOtherWith_83 : decode cX7_isOtherWith 83 = .ok (.goto 4, 3) := by decide +kernel
theorem dX7_isOtherWith_86 : decode cX7_isOtherWith 86 = .ok (.iconst 0, 1) := by decide +kernel
theorem dX7_isOtherWith_87 : decode cX7_isOtherWith 87 = .ok (.ireturn, 1) := by decide +kernel
