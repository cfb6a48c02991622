theorem dX2_init_0 : decode cX2_init 0 = .ok (.aload_n 0, 1) := by decide +kernel
theorem dX2_init_1 : decode cX2_init 1 = .ok (.invokespecial 3, 3) := by decide +kernel
theorem dX2_init_4 : decode cX2_init 4 = .ok (.aload_n 0, 1) := by decide +kernel
theorem dX2_init_5 : decode cX2_init 5 = .ok (.iconst 0, 1) := by decide +kernel
theorem dX2_init_6 : decode cX2_init 6 = .ok (.putfield 9, 3) := by decide +kernel
theorem dX2_init_9 : decode cX2_init 9 = .ok (.aload_n 0, 1) := by decide +kernel
theorem dX2_init_10 : decode cX2_init 10 = .ok (.iconst 0, 1) := by decide +kernel
theorem dX2_init_11 : decode cX2_init 11 = .ok (.putfield 15, 3) := by decide +kernel
theorem dX2_init_14 : decode cX2_init 14 = .ok (.aload_n 0, 1) := by decide +kernel
theorem dX2_init_15 : decode cX2_init 15 = .ok (.bipush 6, 2) := by decide +kernel
theorem dX2_init_17 : decode cX2_init 17 = .ok (.newarray .int, 2) := by decide +kernel
theorem dX2_init_19 : decode cX2_init 19 = .ok (.putfield 19, 3) := by decide +kernel
theorem dX2_init_22 : decode cX2_init 22 = .ok (.aload_n 0, 1) := by decide +kernel
theorem dX2_init_23 : decode cX2_init 23 = .ok (.bipush 6, 2) := by decide +kernel
theorem dX2_init_25 : decode cX2_init 25 = .ok (.newarray .int, 2) := by decide +kernel
theorem dX2_init_27 : decode cX2_init 27 = .ok (.putfield 23, 3) := by decide +kernel
theorem dX2_init_30 : decode cX2_init 30 = .ok (.aload_n 0, 1) := by decide +kernel
theorem dX2_init_31 : decode cX2_init 31 = .ok (.bipush 6, 2) := by decide +kernel
theorem dX2_init_33 : decode cX2_init 33 = .ok (.newarray .int, 2) := by decide +kernel
theorem dX2_init_35 : decode cX2_init 35 = .ok (.putfield 26, 3) := by decide +kernel
theorem dX2_init_38 : decode cX2_init 38 = .ok (.aload_n 0, 1) := by decide +kernel
theorem dX2_init_39 : decode cX2_init 39 = .ok (.bipush 6, 2) := by decide +kernel
theorem dX2_init_41 : decode cX2_init 41 = .ok (.newarray .int, 2) := by decide +kernel
theorem dX2_init_43 : decode cX2_init 43 = .ok (.putfield 29, 3) := by decide +kernel
theorem dX2_init_46 : decode cX2_init 46 = .ok (.aload_n 0, 1) := by decide +kernel
theorem dX2_init_47 : decode cX2_init 47 = .ok (.iconst 0, 1) := by decide +kernel
theorem dX2_init_48 : decode cX2_init 48 = .ok (.putfield 32, 3) := by decide +kernel
theorem dX2_init_51 : decode cX2_init 51 = .ok (.return_, 1) := by decide +kernel
theorem dX2_read_0 : decode cX2_read 0 = .ok (.aload_n 0, 1) := by decide +kernel
theorem dX2_read_1 : decode cX2_read 1 = .ok (.iconst 1, 1) := by decide +kernel
theorem dX2_read_2 : decode cX2_read 2 = .ok (.putfield 9, 3) := by decide +kernel
theorem dX2_read_5 : decode cX2_read 5 = .ok (.aload_n 0, 1) := by decide +kernel
theorem dX2_read_6 : decode cX2_read 6 = .ok (.iconst 0, 1) := by decide +kernel
theorem dX2_read_7 : decode cX2_read 7 = .ok (.putfield 15, 3) := by decide +kernel
theorem dX2_read_10 : decode cX2_read 10 = .ok (.iconst 0, 1) := by decide +kernel
theorem dX2_read_11 : decode cX2_read 11 = .ok (.istore_n 2, 1) := by decide +kernel
theorem dX2_read_12 : decode cX2_read 12 = .ok (.iconst 0, 1) := by decide +kernel
theorem dX2_read_13 : decode cX2_read 13 = .ok (.istore_n 3, 1) := by decide +kernel
theorem dX2_read_14 : decode cX2_read 14 = .ok (.iload_n 3, 1) := by decide +kernel
theorem dX2_read_15 : decode cX2_read 15 = .ok (.aload_n 1, 1) := by decide +kernel
theorem dX2_read_16 : decode cX2_read 16 = .ok (.getfield 37, 3) := by decide +kernel
theorem dX2_read_19 : decode cX2_read 19 = .ok (.if_icmp .ge 83, 3) := by decide +kernel
theorem dX2_read_22 : decode cX2_read 22 = .ok (.aload_n 1, 1) := by decide +kernel
theorem dX2_read_23 : decode cX2_read 23 = .ok (.getfield 40, 3) := by decide +kernel
theorem dX2_read_26 : decode cX2_read 26 = .ok (.iload_n 3, 1) := by decide +kernel
theorem dX2_read_27 : decode cX2_read 27 = .ok (.iaload, 1) := by decide +kernel
theorem dX2_read_28 : decode cX2_read 28 = .ok (.istore 4, 2) := by decide +kernel
theorem dX2_read_30 : decode cX2_read 30 = .ok (.iload_n 2, 1) := by decide +kernel
theorem dX2_read_31 : decode cX2_read 31 = .ok (.ifCond .ne 23, 3) := by decide +kernel
theorem dX2_read_34 : decode cX2_read 34 = .ok (.iload 4, 2) := by decide +kernel
theorem dX2_read_36 : decode cX2_read 36 = .ok (.invokestatic 43, 3) := by decide +kernel
theorem dX2_read_39 : decode cX2_read 39 = .ok (.ifCond .ne 15, 3) := by decide +kernel
theorem dX2_read_42 : decode cX2_read 42 = .ok (.aload_n 0, 1) := by decide +kernel
theorem dX2_read_43 : decode cX2_read 43 = .ok (.iload 4, 2) := by decide +kernel
theorem dX2_read_45 : decode cX2_read 45 = .ok (.bipush 48, 2) := by decide +kernel
theorem dX2_read_47 : decode cX2_read 47 = .ok (.isub, 1) := by decide +kernel
theorem dX2_read_48 : decode cX2_read 48 = .ok (.putfield 32, 3) := by decide +kernel
theorem dX2_read_51 : decode cX2_read 51 = .ok (.goto 38, 3) := by decide +kernel
theorem dX2_read_54 : decode cX2_read 54 = .ok (.iload_n 2, 1) := by decide +kernel
theorem dX2_read_55 : decode cX2_read 55 = .ok (.bipush 6, 2) := by decide +kernel
theorem dX2_read_57 : decode cX2_read 57 = .ok (.if_icmp .ne 16, 3) := by decide +kernel
theorem dX2_read_60 : decode cX2_read 60 = .ok (.aload_n 0, 1) := by decide +kernel
theorem dX2_read_61 : decode cX2_read 61 = .ok (.dup, 1) := by decide +kernel
theorem dX2_read_62 : decode cX2_read 62 = .ok (.getfield 15, 3) := by decide +kernel
theorem dX2_read_65 : decode cX2_read 65 = .ok (.iconst 1, 1) := by decide +kernel
theorem dX2_read_66 : decode cX2_read 66 = .ok (.iadd, 1) := by decide +kernel
theorem dX2_read_67 : decode cX2_read 67 = .ok (.putfield 15, 3) := by decide +kernel
theorem dX2_read_70 : decode cX2_read 70 = .ok (.goto 19, 3) := by decide +kernel
theorem dX2_read_73 : decode cX2_read 73 = .ok (.aload_n 0, 1) := by decide +kernel
theorem dX2_read_74 : decode cX2_read 74 = .ok (.getfield 15, 3) := by decide +kernel
theorem dX2_read_77 : decode cX2_read 77 = .ok (.bipush 6, 2) := by decide +kernel
theorem dX2_read_79 : decode cX2_read 79 = .ok (.if_icmp .ge 10, 3) := by decide +kernel
theorem dX2_read_82 : decode cX2_read 82 = .ok (.aload_n 0, 1) := by decide +kernel
theorem dX2_read_83 : decode cX2_read 83 = .ok (.iload_n 2, 1) := by decide +kernel
theorem dX2_read_84 : decode cX2_read 84 = .ok (.iload 4, 2) := by decide +kernel
theorem dX2_read_86 : decode cX2_read 86 = .ok (.invokevirtual 47, 3) := by decide +kernel
theorem dX2_read_89 : decode cX2_read 89 = .ok (.iload_n 2, 1) := by decide +kernel
theorem dX2_read_90 : decode cX2_read 90 = .ok (.iload 4, 2) := by decide +kernel
theorem dX2_read_92 : decode cX2_read 92 = .ok (.invokestatic 51, 3) := by decide +kernel
theorem dX2_read_95 : decode cX2_read 95 = .ok (.istore_n 2, 1) := by decide +kernel
theorem dX2_read_96 : decode cX2_read 96 = .ok (.iinc 3 1, 3) := by decide +kernel
theorem dX2_read_99 : decode cX2_read 99 = .ok (.goto (-85), 3) := by decide +kernel
theorem dX2_read_102 : decode cX2_read 102 = .ok (.return_, 1) := by decide +kernel
theorem dX2_readInClause_0 : decode cX2_readInClause 0 = .ok (.iload_n 1, 1) := by decide +kernel
theorem dX2_readInClause_1 : decode cX2_readInClause 1 = .ok (.tableswitch 133 0 5 #[39, 52, 65, 81, 133, 117], 39) := by decide +kernel
theorem dX2_readInClause_40 : decode cX2_readInClause 40 = .ok (.aload_n 0, 1) := by decide +kernel
theorem dX2_readInClause_41 : decode cX2_readInClause 41 = .ok (.getfield 19, 3) := by decide +kernel
theorem dX2_readInClause_44 : decode cX2_readInClause 44 = .ok (.aload_n 0, 1) := by decide +kernel
theorem dX2_readInClause_45 : decode cX2_readInClause 45 = .ok (.getfield 15, 3) := by decide +kernel
theorem dX2_readInClause_48 : decode cX2_readInClause 48 = .ok (.iload_n 2, 1) := by decide +kernel
theorem dX2_readInClause_49 : decode cX2_readInClause 49 = .ok (.iastore, 1) := by decide +kernel
theorem dX2_readInClause_50 : decode cX2_readInClause 50 = .ok (.goto 84, 3) := by decide +kernel
theorem dX2_readInClause_53 : decode cX2_readInClause 53 = .ok (.aload_n 0, 1) := by decide +kernel
theorem dX2_readInClause_54 : decode cX2_readInClause 54 = .ok (.getfield 23, 3) := by decide +kernel
theorem dX2_readInClause_57 : decode cX2_readInClause 57 = .ok (.aload_n 0, 1) := by decide +kernel
theorem dX2_readInClause_58 : decode cX2_readInClause 58 = .ok (.getfield 15, 3) := by decide +kernel
theorem dX2_readInClause_61 : decode cX2_readInClause 61 = .ok (.iload_n 2, 1) := by decide +kernel
theorem dX2_readInClause_62 : decode cX2_readInClause 62 = .ok (.iastore, 1) := by decide +kernel
theorem dX2_readInClause_63 : decode cX2_readInClause 63 = .ok (.goto 71, 3) := by decide +kernel
theorem dX2_readInClause_66 : decode cX2_readInClause 66 = .ok (.aload_n 0, 1) := by decide +kernel
theorem dX2_readInClause_67 : decode cX2_readInClause 67 = .ok (.getfield 26, 3) := by decide +kernel
theorem dX2_readInClause_70 : decode cX2_readInClause 70 = .ok (.aload_n 0, 1) := by decide +kernel
theorem dX2_readInClause_71 : decode cX2_readInClause 71 = .ok (.getfield 15, 3) := by decide +kernel
theorem dX2_readInClause_74 : decode cX2_readInClause 74 = .ok (.iload_n 2, 1) := by decide +kernel
theorem dX2_readInClause_75 : decode cX2_readInClause 75 = .ok (.bipush 48, 2) := by decide +kernel
theorem dX2_readInClause_77 : decode cX2_readInClause 77 = .ok (.isub, 1) := by decide +kernel
theorem dX2_readInClause_78 : decode cX2_readInClause 78 = .ok (.iastore, 1) := by decide +kernel
theorem dX2_readInClause_79 : decode cX2_readInClause 79 = .ok (.goto 55, 3) := by decide +kernel
theorem dX2_readInClause_82 : decode cX2_readInClause 82 = .ok (.iload_n 2, 1) := by decide +kernel
theorem dX2_readInClause_83 : decode cX2_readInClause 83 = .ok (.invokestatic 55, 3) := by decide +kernel
theorem dX2_readInClause_86 : decode cX2_readInClause 86 = .ok (.ifCond .eq 48, 3) := by decide +kernel
theorem dX2_readInClause_89 : decode cX2_readInClause 89 = .ok (.aload_n 0, 1) := by decide +kernel
theorem dX2_readInClause_90 : decode cX2_readInClause 90 = .ok (.getfield 26, 3) := by decide +kernel
theorem dX2_readInClause_93 : decode cX2_readInClause 93 = .ok (.aload_n 0, 1) := by decide +kernel
theorem dX2_readInClause_94 : decode cX2_readInClause 94 = .ok (.getfield 15, 3) := by decide +kernel
theorem dX2_readInClause_97 : decode cX2_readInClause 97 = .ok (.aload_n 0, 1) := by decide +kernel
theorem dX2_readInClause_98 : decode cX2_readInClause 98 = .ok (.getfield 26, 3) := by decide +kernel
theorem dX2_readInClause_101 : decode cX2_readInClause 101 = .ok (.aload_n 0, 1) := by decide +kernel
theorem dX2_readInClause_102 : decode cX2_readInClause 102 = .ok (.getfield 15, 3) := by decide +kernel
theorem dX2_readInClause_105 : decode cX2_readInClause 105 = .ok (.iaload, 1) := by decide +kernel
theorem dX2_readInClause_106 : decode cX2_readInClause 106 = .ok (.bipush 10, 2) := by decide +kernel
theorem dX2_readInClause_108 : decode cX2_readInClause 108 = .ok (.imul, 1) := by decide +kernel
theorem dX2_readInClause_109 : decode cX2_readInClause 109 = .ok (.iload_n 2, 1) := by decide +kernel
theorem dX2_readInClause_110 : decode cX2_readInClause 110 = .ok (.iadd, 1) := by decide +kernel
theorem dX2_readInClause_111 : decode cX2_readInClause 111 = .ok (.bipush 48, 2) := by decide +kernel
theorem dX2_readInClause_113 : decode cX2_readInClause 113 = .ok (.isub, 1) := by decide +kernel
theorem dX2_readInClause_114 : decode cX2_readInClause 114 = .ok (.iastore, 1) := by decide +kernel
theorem dX2_readInClause_115 : decode cX2_readInClause 115 = .ok (.goto 19, 3) := by decide +kernel
theorem dX2_readInClause_118 : decode cX2_readInClause 118 = .ok (.aload_n 0, 1) := by decide +kernel
theorem dX2_readInClause_119 : decode cX2_readInClause 119 = .ok (.getfield 29, 3) := by decide +kernel
theorem dX2_readInClause_122 : decode cX2_readInClause 122 = .ok (.aload_n 0, 1) := by decide +kernel
theorem dX2_readInClause_123 : decode cX2_readInClause 123 = .ok (.getfield 15, 3) := by decide +kernel
theorem dX2_readInClause_126 : decode cX2_readInClause 126 = .ok (.iload_n 2, 1) := by decide +kernel
theorem dX2_readInClause_127 : decode cX2_readInClause 127 = .ok (.bipush 48, 2) := by decide +kernel
theorem dX2_readInClause_129 : decode cX2_readInClause 129 = .ok (.isub, 1) := by decide +kernel
theorem dX2_readInClause_130 : decode cX2_readInClause 130 = .ok (.iastore, 1) := by decide +kernel
theorem dX2_readInClause_131 : decode cX2_readInClause 131 = .ok (.goto 3, 3) := by decide +kernel
theorem dX2_readInClause_134 : decode cX2_readInClause 134 = .ok (.return_, 1) := by decide +kernel
theorem dX2_numberFor_0 : decode cX2_numberFor 0 = .ok (.aload_n 0, 1) := by decide +kernel
theorem dX2_numberFor_1 : decode cX2_numberFor 1 = .ok (.getfield 32, 3) := by decide +kernel
theorem dX2_numberFor_4 : decode cX2_numberFor 4 = .ok (.istore 4, 2) := by decide +kernel
theorem dX2_numberFor_6 : decode cX2_numberFor 6 = .ok (.aload_n 0, 1) := by decide +kernel
theorem dX2_numberFor_7 : decode cX2_numberFor 7 = .ok (.getfield 15, 3) := by decide +kernel
theorem dX2_numberFor_10 : decode cX2_numberFor 10 = .ok (.iconst 1, 1) := by decide +kernel
theorem dX2_numberFor_11 : decode cX2_numberFor 11 = .ok (.isub, 1) := by decide +kernel
theorem dX2_numberFor_12 : decode cX2_numberFor 12 = .ok (.istore 5, 2) := by decide +kernel
theorem dX2_numberFor_14 : decode cX2_numberFor 14 = .ok (.iload 5, 2) := by decide +kernel
theorem dX2_numberFor_16 : decode cX2_numberFor 16 = .ok (.ifCond .lt 44, 3) := by decide +kernel
theorem dX2_numberFor_19 : decode cX2_numberFor 19 = .ok (.aload_n 0, 1) := by decide +kernel
theorem dX2_numberFor_20 : decode cX2_numberFor 20 = .ok (.iload 5, 2) := by decide +kernel
theorem dX2_numberFor_22 : decode cX2_numberFor 22 = .ok (.aload_n 0, 1) := by decide +kernel
theorem dX2_numberFor_23 : decode cX2_numberFor 23 = .ok (.getfield 19, 3) := by decide +kernel
theorem dX2_numberFor_26 : decode cX2_numberFor 26 = .ok (.iload 5, 2) := by decide +kernel
theorem dX2_numberFor_28 : decode cX2_numberFor 28 = .ok (.iaload, 1) := by decide +kernel
theorem dX2_numberFor_29 : decode cX2_numberFor 29 = .ok (.bipush 108, 2) := by decide +kernel
theorem dX2_numberFor_31 : decode cX2_numberFor 31 = .ok (.if_icmp .ne 7, 3) := by decide +kernel
theorem dX2_numberFor_34 : decode cX2_numberFor 34 = .ok (.iload_n 2, 1) := by decide +kernel
theorem dX2_numberFor_35 : decode cX2_numberFor 35 = .ok (.goto 4, 3) := by decide +kernel
theorem dX2_numberFor_38 : decode cX2_numberFor 38 = .ok (.iload_n 1, 1) := by decide +kernel
theorem dX2_numberFor_39 : decode cX2_numberFor 39 = .ok (.invokevirtual 58, 3) := by decide +kernel
theorem dX2_numberFor_42 : decode cX2_numberFor 42 = .ok (.ifCond .eq 12, 3) := by decide +kernel
theorem dX2_numberFor_45 : decode cX2_numberFor 45 = .ok (.aload_n 0, 1) := by decide +kernel
theorem dX2_numberFor_46 : decode cX2_numberFor 46 = .ok (.getfield 29, 3) := by decide +kernel
theorem dX2_numberFor_49 : decode cX2_numberFor 49 = .ok (.iload 5, 2) := by decide +kernel
theorem dX2_numberFor_51 : decode cX2_numberFor 51 = .ok (.iaload, 1) := by decide +kernel
theorem dX2_numberFor_52 : decode cX2_numberFor 52 = .ok (.istore 4, 2) := by decide +kernel
theorem dX2_numberFor_54 : decode cX2_numberFor 54 = .ok (.iinc 5 (-1), 3) := by decide +kernel
theorem dX2_numberFor_57 : decode cX2_numberFor 57 = .ok (.goto (-43), 3) := by decide +kernel
theorem dX2_numberFor_60 : decode cX2_numberFor 60 = .ok (.iload 4, 2) := by decide +kernel
theorem dX2_numberFor_62 : decode cX2_numberFor 62 = .ok (.iload_n 3, 1) := by decide +kernel
theorem dX2_numberFor_63 : decode cX2_numberFor 63 = .ok (.iconst 1, 1) := by decide +kernel
theorem dX2_numberFor_64 : decode cX2_numberFor 64 = .ok (.isub, 1) := by decide +kernel
theorem dX2_numberFor_65 : decode cX2_numberFor 65 = .ok (.invokestatic 62, 3) := by decide +kernel
theorem dX2_numberFor_68 : decode cX2_numberFor 68 = .ok (.ireturn, 1) := by decide +kernel
theorem dX2_isSo_0 : decode cX2_isSo 0 = .ok (.aload_n 0, 1) := by decide +kernel
theorem dX2_isSo_1 : decode cX2_isSo 1 = .ok (.getfield 23, 3) := by decide +kernel
theorem dX2_isSo_4 : decode cX2_isSo 4 = .ok (.iload_n 1, 1) := by decide +kernel
theorem dX2_isSo_5 : decode cX2_isSo 5 = .ok (.iaload, 1) := by decide +kernel
theorem dX2_isSo_6 : decode cX2_isSo 6 = .ok (.lookupswitch 58 #[(60, 26), (62, 42)], 26) := by decide +kernel
theorem dX2_isSo_32 : decode cX2_isSo 32 = .ok (.iload_n 2, 1) := by decide +kernel
theorem dX2_isSo_33 : decode cX2_isSo 33 = .ok (.aload_n 0, 1) := by decide +kernel
theorem dX2_isSo_34 : decode cX2_isSo 34 = .ok (.getfield 26, 3) := by decide +kernel
theorem dX2_isSo_37 : decode cX2_isSo 37 = .ok (.iload_n 1, 1) := by decide +kernel
theorem dX2_isSo_38 : decode cX2_isSo 38 = .ok (.iaload, 1) := by decide +kernel
theorem dX2_isSo_39 : decode cX2_isSo 39 = .ok (.if_icmp .ge 7, 3) := by decide +kernel
theorem dX2_isSo_42 : decode cX2_isSo 42 = .ok (.iconst 1, 1) := by decide +kernel
theorem dX2_isSo_43 : decode cX2_isSo 43 = .ok (.goto 4, 3) := by decide +kernel
theorem dX2_isSo_46 : decode cX2_isSo 46 = .ok (.iconst 0, 1) := by decide +kernel
theorem dX2_isSo_47 : decode cX2_isSo 47 = .ok (.ireturn, 1) := by decide +kernel
theorem dX2_isSo_48 : decode cX2_isSo 48 = .ok (.iload_n 2, 1) := by decide +kernel
theorem dX2_isSo_49 : decode cX2_isSo 49 = .ok (.aload_n 0, 1) := by decide +kernel
theorem dX2_isSo_50 : decode cX2_isSo 50 = .ok (.getfield 26, 3) := by decide +kernel
theorem dX2_isSo_53 : decode cX2_isSo 53 = .ok (.iload_n 1, 1) := by decide +kernel
theorem dX2_isSo_54 : decode cX2_isSo 54 = .ok (.iaload, 1) := by decide +kernel
theorem dX2_isSo_55 : decode cX2_isSo 55 = .ok (.if_icmp .le 7, 3) := by decide +kernel
theorem dX2_isSo_58 : decode cX2_isSo 58 = .ok (.iconst 1, 1) := by decide +kernel
theorem dX2_isSo_59 : decode cX2_isSo 59 = .ok (.goto 4, 3) := by decide +kernel
theorem dX2_isSo_62 : decode cX2_isSo 62 = .ok (.iconst 0, 1) := by decide +kernel
theorem dX2_isSo_63 : decode cX2_isSo 63 = .ok (.ireturn, 1) := by decide +kernel
theorem dX2_isSo_64 : decode cX2_isSo 64 = .ok (.iload_n 2, 1) := by decide +kernel
theorem dX2_isSo_65 : decode cX2_isSo 65 = .ok (.aload_n 0, 1) := by decide +kernel
theorem dX2_isSo_66 : decode cX2_isSo 66 = .ok (.getfield 26, 3) := by decide +kernel
theorem dX2_isSo_69 : decode cX2_isSo 69 = .ok (.iload_n 1, 1) := by decide +kernel
theorem dX2_isSo_70 : decode cX2_isSo 70 = .ok (.iaload, 1) := by decide +kernel
theorem dX2_isSo_71 : decode cX2_isSo 71 = .ok (.if_icmp .ne 7, 3) := by decide +kernel
theorem dX2_isSo_74 : decode cX2_isSo 74 = .ok (.iconst 1, 1) := by decide +kernel
theorem dX2_isSo_75 : decode cX2_isSo 75 = .ok (.goto 4, 3) := by decide +kernel
theorem dX2_isSo_78 : decode cX2_isSo 78 = .ok (.iconst 0, 1) := by decide +kernel
theorem dX2_isSo_79 : decode cX2_isSo 79 = .ok (.ireturn, 1) := by decide +kernel
