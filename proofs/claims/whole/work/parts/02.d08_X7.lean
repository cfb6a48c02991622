theorem dX7_init_0 : decode cX7_init 0 = .ok (.aload_n 0, 1) := by decide +kernel
theorem dX7_init_1 : decode cX7_init 1 = .ok (.invokespecial 1, 3) := by decide +kernel
theorem dX7_init_4 : decode cX7_init 4 = .ok (.aload_n 0, 1) := by decide +kernel
theorem dX7_init_5 : decode cX7_init 5 = .ok (.new 7, 3) := by decide +kernel
theorem dX7_init_8 : decode cX7_init 8 = .ok (.dup, 1) := by decide +kernel
theorem dX7_init_9 : decode cX7_init 9 = .ok (.invokespecial 9, 3) := by decide +kernel
theorem dX7_init_12 : decode cX7_init 12 = .ok (.putfield 10, 3) := by decide +kernel
theorem dX7_init_15 : decode cX7_init 15 = .ok (.aload_n 0, 1) := by decide +kernel
theorem dX7_init_16 : decode cX7_init 16 = .ok (.bipush 6, 2) := by decide +kernel
theorem dX7_init_18 : decode cX7_init 18 = .ok (.newarray .int, 2) := by decide +kernel
theorem dX7_init_20 : decode cX7_init 20 = .ok (.putfield 16, 3) := by decide +kernel
theorem dX7_init_23 : decode cX7_init 23 = .ok (.aload_n 0, 1) := by decide +kernel
theorem dX7_init_24 : decode cX7_init 24 = .ok (.new 20, 3) := by decide +kernel
theorem dX7_init_27 : decode cX7_init 27 = .ok (.dup, 1) := by decide +kernel
theorem dX7_init_28 : decode cX7_init 28 = .ok (.invokespecial 22, 3) := by decide +kernel
theorem dX7_init_31 : decode cX7_init 31 = .ok (.putfield 23, 3) := by decide +kernel
theorem dX7_init_34 : decode cX7_init 34 = .ok (.aload_n 0, 1) := by decide +kernel
theorem dX7_init_35 : decode cX7_init 35 = .ok (.new 20, 3) := by decide +kernel
theorem dX7_init_38 : decode cX7_init 38 = .ok (.dup, 1) := by decide +kernel
theorem dX7_init_39 : decode cX7_init 39 = .ok (.invokespecial 22, 3) := by decide +kernel
theorem dX7_init_42 : decode cX7_init 42 = .ok (.putfield 27, 3) := by decide +kernel
theorem dX7_init_45 : decode cX7_init 45 = .ok (.aload_n 0, 1) := by decide +kernel
theorem dX7_init_46 : decode cX7_init 46 = .ok (.new 30, 3) := by decide +kernel
theorem dX7_init_49 : decode cX7_init 49 = .ok (.dup, 1) := by decide +kernel
theorem dX7_init_50 : decode cX7_init 50 = .ok (.invokespecial 32, 3) := by decide +kernel
theorem dX7_init_53 : decode cX7_init 53 = .ok (.putfield 33, 3) := by decide +kernel
theorem dX7_init_56 : decode cX7_init 56 = .ok (.aload_n 0, 1) := by decide +kernel
theorem dX7_init_57 : decode cX7_init 57 = .ok (.new 37, 3) := by decide +kernel
theorem dX7_init_60 : decode cX7_init 60 = .ok (.dup, 1) := by decide +kernel
theorem dX7_init_61 : decode cX7_init 61 = .ok (.invokespecial 39, 3) := by decide +kernel
theorem dX7_init_64 : decode cX7_init 64 = .ok (.putfield 40, 3) := by decide +kernel
theorem dX7_init_67 : decode cX7_init 67 = .ok (.aload_n 0, 1) := by decide +kernel
theorem dX7_init_68 : decode cX7_init 68 = .ok (.new 44, 3) := by decide +kernel
theorem dX7_init_71 : decode cX7_init 71 = .ok (.dup, 1) := by decide +kernel
theorem dX7_init_72 : decode cX7_init 72 = .ok (.invokespecial 46, 3) := by decide +kernel
theorem dX7_init_75 : decode cX7_init 75 = .ok (.putfield 47, 3) := by decide +kernel
theorem dX7_init_78 : decode cX7_init 78 = .ok (.aload_n 0, 1) := by decide +kernel
theorem dX7_init_79 : decode cX7_init 79 = .ok (.new 44, 3) := by decide +kernel
theorem dX7_init_82 : decode cX7_init 82 = .ok (.dup, 1) := by decide +kernel
theorem dX7_init_83 : decode cX7_init 83 = .ok (.invokespecial 46, 3) := by decide +kernel
theorem dX7_init_86 : decode cX7_init 86 = .ok (.putfield 51, 3) := by decide +kernel
theorem dX7_init_89 : decode cX7_init 89 = .ok (.aload_n 0, 1) := by decide +kernel
theorem dX7_init_90 : decode cX7_init 90 = .ok (.new 44, 3) := by decide +kernel
theorem dX7_init_93 : decode cX7_init 93 = .ok (.dup, 1) := by decide +kernel
theorem dX7_init_94 : decode cX7_init 94 = .ok (.invokespecial 46, 3) := by decide +kernel
theorem dX7_init_97 : decode cX7_init 97 = .ok (.putfield 54, 3) := by decide +kernel
theorem dX7_init_100 : decode cX7_init 100 = .ok (.aload_n 0, 1) := by decide +kernel
theorem dX7_init_101 : decode cX7_init 101 = .ok (.new 57, 3) := by decide +kernel
theorem dX7_init_104 : decode cX7_init 104 = .ok (.dup, 1) := by decide +kernel
theorem dX7_init_105 : decode cX7_init 105 = .ok (.invokespecial 59, 3) := by decide +kernel
theorem dX7_init_108 : decode cX7_init 108 = .ok (.putfield 60, 3) := by decide +kernel
theorem dX7_init_111 : decode cX7_init 111 = .ok (.aload_n 0, 1) := by decide +kernel
theorem dX7_init_112 : decode cX7_init 112 = .ok (.new 64, 3) := by decide +kernel
theorem dX7_init_115 : decode cX7_init 115 = .ok (.dup, 1) := by decide +kernel
theorem dX7_init_116 : decode cX7_init 116 = .ok (.invokespecial 66, 3) := by decide +kernel
theorem dX7_init_119 : decode cX7_init 119 = .ok (.putfield 67, 3) := by decide +kernel
theorem dX7_init_122 : decode cX7_init 122 = .ok (.aload_n 0, 1) := by decide +kernel
theorem dX7_init_123 : decode cX7_init 123 = .ok (.iconst (-1), 1) := by decide +kernel
theorem dX7_init_124 : decode cX7_init 124 = .ok (.putfield 71, 3) := by decide +kernel
theorem dX7_init_127 : decode cX7_init 127 = .ok (.aload_n 0, 1) := by decide +kernel
theorem dX7_init_128 : decode cX7_init 128 = .ok (.iconst (-1), 1) := by decide +kernel
theorem dX7_init_129 : decode cX7_init 129 = .ok (.putfield 75, 3) := by decide +kernel
theorem dX7_init_132 : decode cX7_init 132 = .ok (.aload_n 0, 1) := by decide +kernel
theorem dX7_init_133 : decode cX7_init 133 = .ok (.iconst (-1), 1) := by decide +kernel
theorem dX7_init_134 : decode cX7_init 134 = .ok (.putfield 78, 3) := by decide +kernel
theorem dX7_init_137 : decode cX7_init 137 = .ok (.return_, 1) := by decide +kernel
theorem dX7_set_0 : decode cX7_set 0 = .ok (.iload_n 1, 1) := by decide +kernel
theorem dX7_set_1 : decode cX7_set 1 = .ok (.ifCond .ne 32, 3) := by decide +kernel
theorem dX7_set_4 : decode cX7_set 4 = .ok (.iload_n 2, 1) := by decide +kernel
theorem dX7_set_5 : decode cX7_set 5 = .ok (.iconst 0, 1) := by decide +kernel
theorem dX7_set_6 : decode cX7_set 6 = .ok (.bipush 12, 2) := by decide +kernel
theorem dX7_set_8 : decode cX7_set 8 = .ok (.invokestatic 81, 3) := by decide +kernel
theorem dX7_set_11 : decode cX7_set 11 = .ok (.ifCond .eq 22, 3) := by decide +kernel
theorem dX7_set_14 : decode cX7_set 14 = .ok (.aload_n 0, 1) := by decide +kernel
theorem dX7_set_15 : decode cX7_set 15 = .ok (.getfield 10, 3) := by decide +kernel
theorem dX7_set_18 : decode cX7_set 18 = .ok (.getfield 85, 3) := by decide +kernel
theorem dX7_set_21 : decode cX7_set 21 = .ok (.istore_n 3, 1) := by decide +kernel
theorem dX7_set_22 : decode cX7_set 22 = .ok (.aload_n 0, 1) := by decide +kernel
theorem dX7_set_23 : decode cX7_set 23 = .ok (.getfield 10, 3) := by decide +kernel
theorem dX7_set_26 : decode cX7_set 26 = .ok (.iload_n 2, 1) := by decide +kernel
theorem dX7_set_27 : decode cX7_set 27 = .ok (.putfield 85, 3) := by decide +kernel
theorem dX7_set_30 : decode cX7_set 30 = .ok (.goto 74, 3) := by decide +kernel
theorem dX7_set_33 : decode cX7_set 33 = .ok (.iload_n 1, 1) := by decide +kernel
theorem dX7_set_34 : decode cX7_set 34 = .ok (.iconst 1, 1) := by decide +kernel
theorem dX7_set_35 : decode cX7_set 35 = .ok (.if_icmp .ne 32, 3) := by decide +kernel
theorem dX7_set_38 : decode cX7_set 38 = .ok (.iload_n 2, 1) := by decide +kernel
theorem dX7_set_39 : decode cX7_set 39 = .ok (.iconst 1, 1) := by decide +kernel
theorem dX7_set_40 : decode cX7_set 40 = .ok (.bipush 6, 2) := by decide +kernel
theorem dX7_set_42 : decode cX7_set 42 = .ok (.invokestatic 81, 3) := by decide +kernel
theorem dX7_set_45 : decode cX7_set 45 = .ok (.ifCond .eq 22, 3) := by decide +kernel
theorem dX7_set_48 : decode cX7_set 48 = .ok (.aload_n 0, 1) := by decide +kernel
theorem dX7_set_49 : decode cX7_set 49 = .ok (.getfield 10, 3) := by decide +kernel
theorem dX7_set_52 : decode cX7_set 52 = .ok (.getfield 88, 3) := by decide +kernel
theorem dX7_set_55 : decode cX7_set 55 = .ok (.istore_n 3, 1) := by decide +kernel
theorem dX7_set_56 : decode cX7_set 56 = .ok (.aload_n 0, 1) := by decide +kernel
theorem dX7_set_57 : decode cX7_set 57 = .ok (.getfield 10, 3) := by decide +kernel
theorem dX7_set_60 : decode cX7_set 60 = .ok (.iload_n 2, 1) := by decide +kernel
theorem dX7_set_61 : decode cX7_set 61 = .ok (.putfield 88, 3) := by decide +kernel
theorem dX7_set_64 : decode cX7_set 64 = .ok (.goto 40, 3) := by decide +kernel
theorem dX7_set_67 : decode cX7_set 67 = .ok (.iload_n 1, 1) := by decide +kernel
theorem dX7_set_68 : decode cX7_set 68 = .ok (.iconst 2, 1) := by decide +kernel
theorem dX7_set_69 : decode cX7_set 69 = .ok (.if_icmp .ne 32, 3) := by decide +kernel
theorem dX7_set_72 : decode cX7_set 72 = .ok (.iload_n 2, 1) := by decide +kernel
theorem dX7_set_73 : decode cX7_set 73 = .ok (.iconst 0, 1) := by decide +kernel
theorem dX7_set_74 : decode cX7_set 74 = .ok (.bipush 99, 2) := by decide +kernel
theorem dX7_set_76 : decode cX7_set 76 = .ok (.invokestatic 81, 3) := by decide +kernel
theorem dX7_set_79 : decode cX7_set 79 = .ok (.ifCond .eq 22, 3) := by decide +kernel
theorem dX7_set_82 : decode cX7_set 82 = .ok (.aload_n 0, 1) := by decide +kernel
theorem dX7_set_83 : decode cX7_set 83 = .ok (.getfield 10, 3) := by decide +kernel
theorem dX7_set_86 : decode cX7_set 86 = .ok (.getfield 91, 3) := by decide +kernel
theorem dX7_set_89 : decode cX7_set 89 = .ok (.istore_n 3, 1) := by decide +kernel
theorem dX7_set_90 : decode cX7_set 90 = .ok (.aload_n 0, 1) := by decide +kernel
theorem dX7_set_91 : decode cX7_set 91 = .ok (.getfield 10, 3) := by decide +kernel
theorem dX7_set_94 : decode cX7_set 94 = .ok (.iload_n 2, 1) := by decide +kernel
theorem dX7_set_95 : decode cX7_set 95 = .ok (.putfield 91, 3) := by decide +kernel
theorem dX7_set_98 : decode cX7_set 98 = .ok (.goto 6, 3) := by decide +kernel
theorem dX7_set_101 : decode cX7_set 101 = .ok (.bipush (-2), 2) := by decide +kernel
theorem dX7_set_103 : decode cX7_set 103 = .ok (.ireturn, 1) := by decide +kernel
theorem dX7_set_104 : decode cX7_set 104 = .ok (.aload_n 0, 1) := by decide +kernel
theorem dX7_set_105 : decode cX7_set 105 = .ok (.getfield 10, 3) := by decide +kernel
theorem dX7_set_108 : decode cX7_set 108 = .ok (.dup, 1) := by decide +kernel
theorem dX7_set_109 : decode cX7_set 109 = .ok (.getfield 94, 3) := by decide +kernel
theorem dX7_set_112 : decode cX7_set 112 = .ok (.iconst 1, 1) := by decide +kernel
theorem dX7_set_113 : decode cX7_set 113 = .ok (.iadd, 1) := by decide +kernel
theorem dX7_set_114 : decode cX7_set 114 = .ok (.putfield 94, 3) := by decide +kernel
theorem dX7_set_117 : decode cX7_set 117 = .ok (.iload_n 3, 1) := by decide +kernel
theorem dX7_set_118 : decode cX7_set 118 = .ok (.ireturn, 1) := by decide +kernel
theorem dX7_price_0 : decode cX7_price 0 = .ok (.aload_n 0, 1) := by decide +kernel
theorem dX7_price_1 : decode cX7_price 1 = .ok (.getfield 10, 3) := by decide +kernel
theorem dX7_price_4 : decode cX7_price 4 = .ok (.getfield 97, 3) := by decide +kernel
theorem dX7_price_7 : decode cX7_price 7 = .ok (.istore_n 2, 1) := by decide +kernel
theorem dX7_price_8 : decode cX7_price 8 = .ok (.iload_n 1, 1) := by decide +kernel
theorem dX7_price_9 : decode cX7_price 9 = .ok (.iconst 1, 1) := by decide +kernel
theorem dX7_price_10 : decode cX7_price 10 = .ok (.bipush 99, 2) := by decide +kernel
theorem dX7_price_12 : decode cX7_price 12 = .ok (.invokestatic 81, 3) := by decide +kernel
theorem dX7_price_15 : decode cX7_price 15 = .ok (.ifCond .eq 22, 3) := by decide +kernel
theorem dX7_price_18 : decode cX7_price 18 = .ok (.iload_n 2, 1) := by decide +kernel
theorem dX7_price_19 : decode cX7_price 19 = .ok (.ifCond .le 21, 3) := by decide +kernel
theorem dX7_price_22 : decode cX7_price 22 = .ok (.iload_n 1, 1) := by decide +kernel
theorem dX7_price_23 : decode cX7_price 23 = .ok (.aload_n 0, 1) := by decide +kernel
theorem dX7_price_24 : decode cX7_price 24 = .ok (.getfield 10, 3) := by decide +kernel
theorem dX7_price_27 : decode cX7_price 27 = .ok (.getfield 100, 3) := by decide +kernel
theorem dX7_price_30 : decode cX7_price 30 = .ok (.iload_n 2, 1) := by decide +kernel
theorem dX7_price_31 : decode cX7_price 31 = .ok (.iconst 1, 1) := by decide +kernel
theorem dX7_price_32 : decode cX7_price 32 = .ok (.isub, 1) := by decide +kernel
theorem dX7_price_33 : decode cX7_price 33 = .ok (.iaload, 1) := by decide +kernel
theorem dX7_price_34 : decode cX7_price 34 = .ok (.if_icmp .lt 6, 3) := by decide +kernel
theorem dX7_price_37 : decode cX7_price 37 = .ok (.bipush (-2), 2) := by decide +kernel
theorem dX7_price_39 : decode cX7_price 39 = .ok (.ireturn, 1) := by decide +kernel
theorem dX7_price_40 : decode cX7_price 40 = .ok (.iload_n 2, 1) := by decide +kernel
theorem dX7_price_41 : decode cX7_price 41 = .ok (.iconst 5, 1) := by decide +kernel
theorem dX7_price_42 : decode cX7_price 42 = .ok (.if_icmp .lt 6, 3) := by decide +kernel
theorem dX7_price_45 : decode cX7_price 45 = .ok (.bipush (-4), 2) := by decide +kernel
theorem dX7_price_47 : decode cX7_price 47 = .ok (.ireturn, 1) := by decide +kernel
theorem dX7_price_48 : decode cX7_price 48 = .ok (.aload_n 0, 1) := by decide +kernel
theorem dX7_price_49 : decode cX7_price 49 = .ok (.getfield 10, 3) := by decide +kernel
theorem dX7_price_52 : decode cX7_price 52 = .ok (.getfield 100, 3) := by decide +kernel
theorem dX7_price_55 : decode cX7_price 55 = .ok (.iload_n 2, 1) := by decide +kernel
theorem dX7_price_56 : decode cX7_price 56 = .ok (.iload_n 1, 1) := by decide +kernel
theorem dX7_price_57 : decode cX7_price 57 = .ok (.iastore, 1) := by decide +kernel
theorem dX7_price_58 : decode cX7_price 58 = .ok (.aload_n 0, 1) := by decide +kernel
theorem dX7_price_59 : decode cX7_price 59 = .ok (.getfield 10, 3) := by decide +kernel
theorem dX7_price_62 : decode cX7_price 62 = .ok (.dup, 1) := by decide +kernel
theorem dX7_price_63 : decode cX7_price 63 = .ok (.getfield 97, 3) := by decide +kernel
theorem dX7_price_66 : decode cX7_price 66 = .ok (.iconst 1, 1) := by decide +kernel
theorem dX7_price_67 : decode cX7_price 67 = .ok (.iadd, 1) := by decide +kernel
theorem dX7_price_68 : decode cX7_price 68 = .ok (.putfield 97, 3) := by decide +kernel
theorem dX7_price_71 : decode cX7_price 71 = .ok (.aload_n 0, 1) := by decide +kernel
theorem dX7_price_72 : decode cX7_price 72 = .ok (.getfield 10, 3) := by decide +kernel
theorem dX7_price_75 : decode cX7_price 75 = .ok (.dup, 1) := by decide +kernel
theorem dX7_price_76 : decode cX7_price 76 = .ok (.getfield 94, 3) := by decide +kernel
theorem dX7_price_79 : decode cX7_price 79 = .ok (.iconst 1, 1) := by decide +kernel
theorem dX7_price_80 : decode cX7_price 80 = .ok (.iadd, 1) := by decide +kernel
theorem dX7_price_81 : decode cX7_price 81 = .ok (.putfield 94, 3) := by decide +kernel
theorem dX7_price_84 : decode cX7_price 84 = .ok (.iload_n 2, 1) := by decide +kernel
theorem dX7_price_85 : decode cX7_price 85 = .ok (.ireturn, 1) := by decide +kernel
theorem dX7_sort_0 : decode cX7_sort 0 = .ok (.iload_n 1, 1) := by decide +kernel
theorem dX7_sort_1 : decode cX7_sort 1 = .ok (.iconst 0, 1) := by decide +kernel
theorem dX7_sort_2 : decode cX7_sort 2 = .ok (.iconst 4, 1) := by decide +kernel
theorem dX7_sort_3 : decode cX7_sort 3 = .ok (.invokestatic 81, 3) := by decide +kernel
theorem dX7_sort_6 : decode cX7_sort 6 = .ok (.ifCond .eq 23, 3) := by decide +kernel
theorem dX7_sort_9 : decode cX7_sort 9 = .ok (.iload_n 2, 1) := by decide +kernel
theorem dX7_sort_10 : decode cX7_sort 10 = .ok (.iconst 0, 1) := by decide +kernel
theorem dX7_sort_11 : decode cX7_sort 11 = .ok (.bipush 99, 2) := by decide +kernel
theorem dX7_sort_13 : decode cX7_sort 13 = .ok (.invokestatic 81, 3) := by decide +kernel
theorem dX7_sort_16 : decode cX7_sort 16 = .ok (.ifCond .eq 13, 3) := by decide +kernel
theorem dX7_sort_19 : decode cX7_sort 19 = .ok (.iload_n 3, 1) := by decide +kernel
theorem dX7_sort_20 : decode cX7_sort 20 = .ok (.iconst 0, 1) := by decide +kernel
theorem dX7_sort_21 : decode cX7_sort 21 = .ok (.bipush 30, 2) := by decide +kernel
theorem dX7_sort_23 : decode cX7_sort 23 = .ok (.invokestatic 81, 3) := by decide +kernel
theorem dX7_sort_26 : decode cX7_sort 26 = .ok (.ifCond .ne 6, 3) := by decide +kernel
theorem dX7_sort_29 : decode cX7_sort 29 = .ok (.bipush (-2), 2) := by decide +kernel
theorem dX7_sort_31 : decode cX7_sort 31 = .ok (.ireturn, 1) := by decide +kernel
theorem dX7_sort_32 : decode cX7_sort 32 = .ok (.aload_n 0, 1) := by decide +kernel
theorem dX7_sort_33 : decode cX7_sort 33 = .ok (.getfield 10, 3) := by decide +kernel
theorem dX7_sort_36 : decode cX7_sort 36 = .ok (.getfield 103, 3) := by decide +kernel
theorem dX7_sort_39 : decode cX7_sort 39 = .ok (.istore 4, 2) := by decide +kernel
theorem dX7_sort_41 : decode cX7_sort 41 = .ok (.iload 4, 2) := by decide +kernel
theorem dX7_sort_43 : decode cX7_sort 43 = .ok (.iconst 3, 1) := by decide +kernel
theorem dX7_sort_44 : decode cX7_sort 44 = .ok (.if_icmp .lt 6, 3) := by decide +kernel
theorem dX7_sort_47 : decode cX7_sort 47 = .ok (.bipush (-4), 2) := by decide +kernel
theorem dX7_sort_49 : decode cX7_sort 49 = .ok (.ireturn, 1) := by decide +kernel
theorem dX7_sort_50 : decode cX7_sort 50 = .ok (.aload_n 0, 1) := by decide +kernel
theorem dX7_sort_51 : decode cX7_sort 51 = .ok (.getfield 10, 3) := by decide +kernel
theorem dX7_sort_54 : decode cX7_sort 54 = .ok (.getfield 106, 3) := by decide +kernel
theorem dX7_sort_57 : decode cX7_sort 57 = .ok (.iload 4, 2) := by decide +kernel
theorem dX7_sort_59 : decode cX7_sort 59 = .ok (.iload_n 1, 1) := by decide +kernel
theorem dX7_sort_60 : decode cX7_sort 60 = .ok (.iastore, 1) := by decide +kernel
theorem dX7_sort_61 : decode cX7_sort 61 = .ok (.aload_n 0, 1) := by decide +kernel
theorem dX7_sort_62 : decode cX7_sort 62 = .ok (.getfield 10, 3) := by decide +kernel
theorem dX7_sort_65 : decode cX7_sort 65 = .ok (.getfield 109, 3) := by decide +kernel
theorem dX7_sort_68 : decode cX7_sort 68 = .ok (.iload 4, 2) := by decide +kernel
theorem dX7_sort_70 : decode cX7_sort 70 = .ok (.iload_n 2, 1) := by decide +kernel
theorem dX7_sort_71 : decode cX7_sort 71 = .ok (.iastore, 1) := by decide +kernel
theorem dX7_sort_72 : decode cX7_sort 72 = .ok (.aload_n 0, 1) := by decide +kernel
theorem dX7_sort_73 : decode cX7_sort 73 = .ok (.getfield 10, 3) := by decide +kernel
theorem dX7_sort_76 : decode cX7_sort 76 = .ok (.getfield 112, 3) := by decide +kernel
theorem dX7_sort_79 : decode cX7_sort 79 = .ok (.iload 4, 2) := by decide +kernel
theorem dX7_sort_81 : decode cX7_sort 81 = .ok (.iload_n 3, 1) := by decide +kernel
theorem dX7_sort_82 : decode cX7_sort 82 = .ok (.iastore, 1) := by decide +kernel
theorem dX7_sort_83 : decode cX7_sort 83 = .ok (.aload_n 0, 1) := by decide +kernel
theorem dX7_sort_84 : decode cX7_sort 84 = .ok (.getfield 10, 3) := by decide +kernel
theorem dX7_sort_87 : decode cX7_sort 87 = .ok (.getfield 115, 3) := by decide +kernel
theorem dX7_sort_90 : decode cX7_sort 90 = .ok (.iload 4, 2) := by decide +kernel
theorem dX7_sort_92 : decode cX7_sort 92 = .ok (.iconst (-1), 1) := by decide +kernel
theorem dX7_sort_93 : decode cX7_sort 93 = .ok (.iastore, 1) := by decide +kernel
theorem dX7_sort_94 : decode cX7_sort 94 = .ok (.aload_n 0, 1) := by decide +kernel
theorem dX7_sort_95 : decode cX7_sort 95 = .ok (.getfield 10, 3) := by decide +kernel
theorem dX7_sort_98 : decode cX7_sort 98 = .ok (.dup, 1) := by decide +kernel
theorem dX7_sort_99 : decode cX7_sort 99 = .ok (.getfield 103, 3) := by decide +kernel
theorem dX7_sort_102 : decode cX7_sort 102 = .ok (.iconst 1, 1) := by decide +kernel
theorem dX7_sort_103 : decode cX7_sort 103 = .ok (.iadd, 1) := by decide +kernel
theorem dX7_sort_104 : decode cX7_sort 104 = .ok (.putfield 103, 3) := by decide +kernel
theorem dX7_sort_107 : decode cX7_sort 107 = .ok (.aload_n 0, 1) := by decide +kernel
theorem dX7_sort_108 : decode cX7_sort 108 = .ok (.getfield 10, 3) := by decide +kernel
theorem dX7_sort_111 : decode cX7_sort 111 = .ok (.dup, 1) := by decide +kernel
theorem dX7_sort_112 : decode cX7_sort 112 = .ok (.getfield 94, 3) := by decide +kernel
theorem dX7_sort_115 : decode cX7_sort 115 = .ok (.iconst 1, 1) := by decide +kernel
theorem dX7_sort_116 : decode cX7_sort 116 = .ok (.iadd, 1) := by decide +kernel
theorem dX7_sort_117 : decode cX7_sort 117 = .ok (.putfield 94, 3) := by decide +kernel
theorem dX7_sort_120 : decode cX7_sort 120 = .ok (.iload 4, 2) := by decide +kernel
theorem dX7_sort_122 : decode cX7_sort 122 = .ok (.ireturn, 1) := by decide +kernel
theorem dX7_change_0 : decode cX7_change 0 = .ok (.aload_n 0, 1) := by decide +kernel
theorem dX7_change_1 : decode cX7_change 1 = .ok (.getfield 10, 3) := by decide +kernel
theorem dX7_change_4 : decode cX7_change 4 = .ok (.iload_n 1, 1) := by decide +kernel
theorem dX7_change_5 : decode cX7_change 5 = .ok (.invokevirtual 118, 3) := by decide +kernel
theorem dX7_change_8 : decode cX7_change 8 = .ok (.ifCond .ne 5, 3) := by decide +kernel
theorem dX7_change_11 : decode cX7_change 11 = .ok (.iconst (-1), 1) := by decide +kernel
theorem dX7_change_12 : decode cX7_change 12 = .ok (.ireturn, 1) := by decide +kernel
theorem dX7_change_13 : decode cX7_change 13 = .ok (.iload_n 2, 1) := by decide +kernel
theorem dX7_change_14 : decode cX7_change 14 = .ok (.ifCond .ne 36, 3) := by decide +kernel
theorem dX7_change_17 : decode cX7_change 17 = .ok (.iload_n 3, 1) := by decide +kernel
theorem dX7_change_18 : decode cX7_change 18 = .ok (.iconst 0, 1) := by decide +kernel
theorem dX7_change_19 : decode cX7_change 19 = .ok (.iconst 4, 1) := by decide +kernel
theorem dX7_change_20 : decode cX7_change 20 = .ok (.invokestatic 81, 3) := by decide +kernel
theorem dX7_change_23 : decode cX7_change 23 = .ok (.ifCond .eq 27, 3) := by decide +kernel
theorem dX7_change_26 : decode cX7_change 26 = .ok (.aload_n 0, 1) := by decide +kernel
theorem dX7_change_27 : decode cX7_change 27 = .ok (.getfield 10, 3) := by decide +kernel
theorem dX7_change_30 : decode cX7_change 30 = .ok (.getfield 106, 3) := by decide +kernel
theorem dX7_change_33 : decode cX7_change 33 = .ok (.iload_n 1, 1) := by decide +kernel
theorem dX7_change_34 : decode cX7_change 34 = .ok (.iaload, 1) := by decide +kernel
theorem dX7_change_35 : decode cX7_change 35 = .ok (.istore 4, 2) := by decide +kernel
theorem dX7_change_37 : decode cX7_change 37 = .ok (.aload_n 0, 1) := by decide +kernel
theorem dX7_change_38 : decode cX7_change 38 = .ok (.getfield 10, 3) := by decide +kernel
theorem dX7_change_41 : decode cX7_change 41 = .ok (.getfield 106, 3) := by decide +kernel
theorem dX7_change_44 : decode cX7_change 44 = .ok (.iload_n 1, 1) := by decide +kernel
theorem dX7_change_45 : decode cX7_change 45 = .ok (.iload_n 3, 1) := by decide +kernel
theorem dX7_change_46 : decode cX7_change 46 = .ok (.iastore, 1) := by decide +kernel
theorem dX7_change_47 : decode cX7_change 47 = .ok (.goto 122, 3) := by decide +kernel
theorem dX7_change_50 : decode cX7_change 50 = .ok (.iload_n 2, 1) := by decide +kernel
theorem dX7_change_51 : decode cX7_change 51 = .ok (.iconst 1, 1) := by decide +kernel
theorem dX7_change_52 : decode cX7_change 52 = .ok (.if_icmp .ne 37, 3) := by decide +kernel
theorem dX7_change_55 : decode cX7_change 55 = .ok (.iload_n 3, 1) := by decide +kernel
theorem dX7_change_56 : decode cX7_change 56 = .ok (.iconst 0, 1) := by decide +kernel
theorem dX7_change_57 : decode cX7_change 57 = .ok (.bipush 99, 2) := by decide +kernel
theorem dX7_change_59 : decode cX7_change 59 = .ok (.invokestatic 81, 3) := by decide +kernel
theorem dX7_change_62 : decode cX7_change 62 = .ok (.ifCond .eq 27, 3) := by decide +kernel
theorem dX7_change_65 : decode cX7_change 65 = .ok (.aload_n 0, 1) := by decide +kernel
theorem dX7_change_66 : decode cX7_change 66 = .ok (.getfield 10, 3) := by decide +kernel
theorem dX7_change_69 : decode cX7_change 69 = .ok (.getfield 109, 3) := by decide +kernel
theorem dX7_change_72 : decode cX7_change 72 = .ok (.iload_n 1, 1) := by decide +kernel
theorem dX7_change_73 : decode cX7_change 73 = .ok (.iaload, 1) := by decide +kernel
theorem dX7_change_74 : decode cX7_change 74 = .ok (.istore 4, 2) := by decide +kernel
theorem dX7_change_76 : decode cX7_change 76 = .ok (.aload_n 0, 1) := by decide +kernel
theorem dX7_change_77 : decode cX7_change 77 = .ok (.getfield 10, 3) := by decide +kernel
theorem dX7_change_80 : decode cX7_change 80 = .ok (.getfield 109, 3) := by decide +kernel
theorem dX7_change_83 : decode cX7_change 83 = .ok (.iload_n 1, 1) := by decide +kernel
theorem dX7_change_84 : decode cX7_change 84 = .ok (.iload_n 3, 1) := by decide +kernel
theorem dX7_change_85 : decode cX7_change 85 = .ok (.iastore, 1) := by decide +kernel
theorem dX7_change_86 : decode cX7_change 86 = .ok (.goto 83, 3) := by decide +kernel
theorem dX7_change_89 : decode cX7_change 89 = .ok (.iload_n 2, 1) := by decide +kernel
theorem dX7_change_90 : decode cX7_change 90 = .ok (.iconst 2, 1) := by decide +kernel
theorem dX7_change_91 : decode cX7_change 91 = .ok (.if_icmp .ne 37, 3) := by decide +kernel
theorem dX7_change_94 : decode cX7_change 94 = .ok (.iload_n 3, 1) := by decide +kernel
theorem dX7_change_95 : decode cX7_change 95 = .ok (.iconst 0, 1) := by decide +kernel
theorem dX7_change_96 : decode cX7_change 96 = .ok (.bipush 30, 2) := by decide +kernel
theorem dX7_change_98 : decode cX7_change 98 = .ok (.invokestatic 81, 3) := by decide +kernel
theorem dX7_change_101 : decode cX7_change 101 = .ok (.ifCond .eq 27, 3) := by decide +kernel
theorem dX7_change_104 : decode cX7_change 104 = .ok (.aload_n 0, 1) := by decide +kernel
theorem dX7_change_105 : decode cX7_change 105 = .ok (.getfield 10, 3) := by decide +kernel
theorem dX7_change_108 : decode cX7_change 108 = .ok (.getfield 112, 3) := by decide +kernel
theorem dX7_change_111 : decode cX7_change 111 = .ok (.iload_n 1, 1) := by decide +kernel
theorem dX7_change_112 : decode cX7_change 112 = .ok (.iaload, 1) := by decide +kernel
theorem dX7_change_113 : decode cX7_change 113 = .ok (.istore 4, 2) := by decide +kernel
theorem dX7_change_115 : decode cX7_change 115 = .ok (.aload_n 0, 1) := by decide +kernel
theorem dX7_change_116 : decode cX7_change 116 = .ok (.getfield 10, 3) := by decide +kernel
theorem dX7_change_119 : decode cX7_change 119 = .ok (.getfield 112, 3) := by decide +kernel
theorem dX7_change_122 : decode cX7_change 122 = .ok (.iload_n 1, 1) := by decide +kernel
theorem dX7_change_123 : decode cX7_change 123 = .ok (.iload_n 3, 1) := by decide +kernel
theorem dX7_change_124 : decode cX7_change 124 = .ok (.iastore, 1) := by decide +kernel
theorem dX7_change_125 : decode cX7_change 125 = .ok (.goto 44, 3) := by decide +kernel
theorem dX7_change_128 : decode cX7_change 128 = .ok (.iload_n 2, 1) := by decide +kernel
theorem dX7_change_129 : decode cX7_change 129 = .ok (.iconst 3, 1) := by decide +kernel
theorem dX7_change_130 : decode cX7_change 130 = .ok (.if_icmp .ne 36, 3) := by decide +kernel
theorem dX7_change_133 : decode cX7_change 133 = .ok (.iload_n 3, 1) := by decide +kernel
theorem dX7_change_134 : decode cX7_change 134 = .ok (.iconst (-1), 1) := by decide +kernel
theorem dX7_change_135 : decode cX7_change 135 = .ok (.bipush 30, 2) := by decide +kernel
theorem dX7_change_137 : decode cX7_change 137 = .ok (.invokestatic 81, 3) := by decide +kernel
theorem dX7_change_140 : decode cX7_change 140 = .ok (.ifCond .eq 26, 3) := by decide +kernel
theorem dX7_change_143 : decode cX7_change 143 = .ok (.aload_n 0, 1) := by decide +kernel
theorem dX7_change_144 : decode cX7_change 144 = .ok (.getfield 10, 3) := by decide +kernel
theorem dX7_change_147 : decode cX7_change 147 = .ok (.iload_n 1, 1) := by decide +kernel
theorem dX7_change_148 : decode cX7_change 148 = .ok (.invokevirtual 122, 3) := by decide +kernel
theorem dX7_change_151 : decode cX7_change 151 = .ok (.istore 4, 2) := by decide +kernel
theorem dX7_change_153 : decode cX7_change 153 = .ok (.aload_n 0, 1) := by decide +kernel
theorem dX7_change_154 : decode cX7_change 154 = .ok (.getfield 10, 3) := by decide +kernel
theorem dX7_change_157 : decode cX7_change 157 = .ok (.getfield 115, 3) := by decide +kernel
theorem dX7_change_160 : decode cX7_change 160 = .ok (.iload_n 1, 1) := by decide +kernel
theorem dX7_change_161 : decode cX7_change 161 = .ok (.iload_n 3, 1) := by decide +kernel
theorem dX7_change_162 : decode cX7_change 162 = .ok (.iastore, 1) := by decide +kernel
theorem dX7_change_163 : decode cX7_change 163 = .ok (.goto 6, 3) := by decide +kernel
theorem dX7_change_166 : decode cX7_change 166 = .ok (.bipush (-2), 2) := by decide +kernel
theorem dX7_change_168 : decode cX7_change 168 = .ok (.ireturn, 1) := by decide +kernel
theorem dX7_change_169 : decode cX7_change 169 = .ok (.aload_n 0, 1) := by decide +kernel
theorem dX7_change_170 : decode cX7_change 170 = .ok (.getfield 10, 3) := by decide +kernel
theorem dX7_change_173 : decode cX7_change 173 = .ok (.dup, 1) := by decide +kernel
theorem dX7_change_174 : decode cX7_change 174 = .ok (.getfield 94, 3) := by decide +kernel
theorem dX7_change_177 : decode cX7_change 177 = .ok (.iconst 1, 1) := by decide +kernel
theorem dX7_change_178 : decode cX7_change 178 = .ok (.iadd, 1) := by decide +kernel
theorem dX7_change_179 : decode cX7_change 179 = .ok (.putfield 94, 3) := by decide +kernel
theorem dX7_change_182 : decode cX7_change 182 = .ok (.iload 4, 2) := by decide +kernel
theorem dX7_change_184 : decode cX7_change 184 = .ok (.ireturn, 1) := by decide +kernel
theorem dX7_worth_0 : decode cX7_worth 0 = .ok (.aload_n 0, 1) := by decide +kernel
theorem dX7_worth_1 : decode cX7_worth 1 = .ok (.getfield 10, 3) := by decide +kernel
theorem dX7_worth_4 : decode cX7_worth 4 = .ok (.iload_n 1, 1) := by decide +kernel
theorem dX7_worth_5 : decode cX7_worth 5 = .ok (.invokevirtual 118, 3) := by decide +kernel
theorem dX7_worth_8 : decode cX7_worth 8 = .ok (.ifCond .ne 5, 3) := by decide +kernel
theorem dX7_worth_11 : decode cX7_worth 11 = .ok (.iconst (-1), 1) := by decide +kernel
theorem dX7_worth_12 : decode cX7_worth 12 = .ok (.ireturn, 1) := by decide +kernel
theorem dX7_worth_13 : decode cX7_worth 13 = .ok (.iload_n 2, 1) := by decide +kernel
theorem dX7_worth_14 : decode cX7_worth 14 = .ok (.iconst 0, 1) := by decide +kernel
theorem dX7_worth_15 : decode cX7_worth 15 = .ok (.iconst 5, 1) := by decide +kernel
theorem dX7_worth_16 : decode cX7_worth 16 = .ok (.invokestatic 81, 3) := by decide +kernel
theorem dX7_worth_19 : decode cX7_worth 19 = .ok (.ifCond .eq 15, 3) := by decide +kernel
theorem dX7_worth_22 : decode cX7_worth 22 = .ok (.aload_n 0, 1) := by decide +kernel
theorem dX7_worth_23 : decode cX7_worth 23 = .ok (.getfield 10, 3) := by decide +kernel
theorem dX7_worth_26 : decode cX7_worth 26 = .ok (.iload_n 1, 1) := by decide +kernel
theorem dX7_worth_27 : decode cX7_worth 27 = .ok (.iload_n 2, 1) := by decide +kernel
theorem dX7_worth_28 : decode cX7_worth 28 = .ok (.invokevirtual 126, 3) := by decide +kernel
theorem dX7_worth_31 : decode cX7_worth 31 = .ok (.goto 5, 3) := by decide +kernel
theorem dX7_worth_34 : decode cX7_worth 34 = .ok (.bipush (-2), 2) := by decide +kernel
theorem dX7_worth_36 : decode cX7_worth 36 = .ok (.ireturn, 1) := by decide +kernel
theorem dX7_plan_0 : decode cX7_plan 0 = .ok (.aload_n 0, 1) := by decide +kernel
theorem dX7_plan_1 : decode cX7_plan 1 = .ok (.getfield 10, 3) := by decide +kernel
theorem dX7_plan_4 : decode cX7_plan 4 = .ok (.iload_n 2, 1) := by decide +kernel
theorem dX7_plan_5 : decode cX7_plan 5 = .ok (.invokevirtual 130, 3) := by decide +kernel
theorem dX7_plan_8 : decode cX7_plan 8 = .ok (.ifCond .ne 5, 3) := by decide +kernel
theorem dX7_plan_11 : decode cX7_plan 11 = .ok (.iconst (-1), 1) := by decide +kernel
theorem dX7_plan_12 : decode cX7_plan 12 = .ok (.ireturn, 1) := by decide +kernel
theorem dX7_plan_13 : decode cX7_plan 13 = .ok (.iload_n 1, 1) := by decide +kernel
theorem dX7_plan_14 : decode cX7_plan 14 = .ok (.iconst 0, 1) := by decide +kernel
theorem dX7_plan_15 : decode cX7_plan 15 = .ok (.iconst 5, 1) := by decide +kernel
theorem dX7_plan_16 : decode cX7_plan 16 = .ok (.invokestatic 81, 3) := by decide +kernel
theorem dX7_plan_19 : decode cX7_plan 19 = .ok (.ifCond .ne 6, 3) := by decide +kernel
theorem dX7_plan_22 : decode cX7_plan 22 = .ok (.bipush (-2), 2) := by decide +kernel
theorem dX7_plan_24 : decode cX7_plan 24 = .ok (.ireturn, 1) := by decide +kernel
theorem dX7_plan_25 : decode cX7_plan 25 = .ok (.aload_n 0, 1) := by decide +kernel
theorem dX7_plan_26 : decode cX7_plan 26 = .ok (.getfield 16, 3) := by decide +kernel
theorem dX7_plan_29 : decode cX7_plan 29 = .ok (.iload_n 1, 1) := by decide +kernel
theorem dX7_plan_30 : decode cX7_plan 30 = .ok (.iaload, 1) := by decide +kernel
theorem dX7_plan_31 : decode cX7_plan 31 = .ok (.istore_n 3, 1) := by decide +kernel
theorem dX7_plan_32 : decode cX7_plan 32 = .ok (.aload_n 0, 1) := by decide +kernel
theorem dX7_plan_33 : decode cX7_plan 33 = .ok (.getfield 16, 3) := by decide +kernel
theorem dX7_plan_36 : decode cX7_plan 36 = .ok (.iload_n 1, 1) := by decide +kernel
theorem dX7_plan_37 : decode cX7_plan 37 = .ok (.iload_n 2, 1) := by decide +kernel
theorem dX7_plan_38 : decode cX7_plan 38 = .ok (.iastore, 1) := by decide +kernel
theorem dX7_plan_39 : decode cX7_plan 39 = .ok (.iload_n 3, 1) := by decide +kernel
theorem dX7_plan_40 : decode cX7_plan 40 = .ok (.ireturn, 1) := by decide +kernel
theorem dX7_brings_0 : decode cX7_brings 0 = .ok (.aload_n 0, 1) := by decide +kernel
theorem dX7_brings_1 : decode cX7_brings 1 = .ok (.iload_n 1, 1) := by decide +kernel
theorem dX7_brings_2 : decode cX7_brings 2 = .ok (.invokestatic 133, 3) := by decide +kernel
theorem dX7_brings_5 : decode cX7_brings 5 = .ok (.invokevirtual 136, 3) := by decide +kernel
theorem dX7_brings_8 : decode cX7_brings 8 = .ok (.istore_n 2, 1) := by decide +kernel
theorem dX7_brings_9 : decode cX7_brings 9 = .ok (.iload_n 2, 1) := by decide +kernel
theorem dX7_brings_10 : decode cX7_brings 10 = .ok (.ifCond .eq 10, 3) := by decide +kernel
theorem dX7_brings_13 : decode cX7_brings 13 = .ok (.ldc2_w 140, 3) := by decide +kernel
theorem dX7_brings_16 : decode cX7_brings 16 = .ok (.iload_n 2, 1) := by decide +kernel
theorem dX7_brings_17 : decode cX7_brings 17 = .ok (.i2l, 1) := by decide +kernel
theorem dX7_brings_18 : decode cX7_brings 18 = .ok (.ladd, 1) := by decide +kernel
theorem dX7_brings_19 : decode cX7_brings 19 = .ok (.lreturn, 1) := by decide +kernel
theorem dX7_brings_20 : decode cX7_brings 20 = .ok (.aload_n 0, 1) := by decide +kernel
theorem dX7_brings_21 : decode cX7_brings 21 = .ok (.getfield 33, 3) := by decide +kernel
theorem dX7_brings_24 : decode cX7_brings 24 = .ok (.aload_n 0, 1) := by decide +kernel
theorem dX7_brings_25 : decode cX7_brings 25 = .ok (.getfield 10, 3) := by decide +kernel
theorem dX7_brings_28 : decode cX7_brings 28 = .ok (.aload_n 0, 1) := by decide +kernel
theorem dX7_brings_29 : decode cX7_brings 29 = .ok (.getfield 16, 3) := by decide +kernel
theorem dX7_brings_32 : decode cX7_brings 32 = .ok (.iconst 0, 1) := by decide +kernel
theorem dX7_brings_33 : decode cX7_brings 33 = .ok (.invokevirtual 142, 3) := by decide +kernel
theorem dX7_brings_36 : decode cX7_brings 36 = .ok (.aload_n 0, 1) := by decide +kernel
theorem dX7_brings_37 : decode cX7_brings 37 = .ok (.getfield 33, 3) := by decide +kernel
theorem dX7_brings_40 : decode cX7_brings 40 = .ok (.aload_n 0, 1) := by decide +kernel
theorem dX7_brings_41 : decode cX7_brings 41 = .ok (.getfield 10, 3) := by decide +kernel
theorem dX7_brings_44 : decode cX7_brings 44 = .ok (.invokevirtual 146, 3) := by decide +kernel
theorem dX7_brings_47 : decode cX7_brings 47 = .ok (.aload_n 0, 1) := by decide +kernel
theorem dX7_brings_48 : decode cX7_brings 48 = .ok (.getfield 10, 3) := by decide +kernel
theorem dX7_brings_51 : decode cX7_brings 51 = .ok (.aload_n 0, 1) := by decide +kernel
theorem dX7_brings_52 : decode cX7_brings 52 = .ok (.getfield 10, 3) := by decide +kernel
theorem dX7_brings_55 : decode cX7_brings 55 = .ok (.getfield 88, 3) := by decide +kernel
theorem dX7_brings_58 : decode cX7_brings 58 = .ok (.invokevirtual 150, 3) := by decide +kernel
theorem dX7_brings_61 : decode cX7_brings 61 = .ok (.iload_n 1, 1) := by decide +kernel
theorem dX7_brings_62 : decode cX7_brings 62 = .ok (.invokestatic 154, 3) := by decide +kernel
theorem dX7_brings_65 : decode cX7_brings 65 = .ok (.lreturn, 1) := by decide +kernel
theorem dX7_left_0 : decode cX7_left 0 = .ok (.aload_n 0, 1) := by decide +kernel
theorem dX7_left_1 : decode cX7_left 1 = .ok (.iload_n 1, 1) := by decide +kernel
theorem dX7_left_2 : decode cX7_left 2 = .ok (.iconst 0, 1) := by decide +kernel
theorem dX7_left_3 : decode cX7_left 3 = .ok (.aload_n 0, 1) := by decide +kernel
theorem dX7_left_4 : decode cX7_left 4 = .ok (.getfield 10, 3) := by decide +kernel
theorem dX7_left_7 : decode cX7_left 7 = .ok (.getfield 85, 3) := by decide +kernel
theorem dX7_left_10 : decode cX7_left 10 = .ok (.invokestatic 81, 3) := by decide +kernel
theorem dX7_left_13 : decode cX7_left 13 = .ok (.ifCond .eq 14, 3) := by decide +kernel
theorem dX7_left_16 : decode cX7_left 16 = .ok (.iload_n 2, 1) := by decide +kernel
theorem dX7_left_17 : decode cX7_left 17 = .ok (.invokestatic 133, 3) := by decide +kernel
theorem dX7_left_20 : decode cX7_left 20 = .ok (.ifCond .eq 7, 3) := by decide +kernel
theorem dX7_left_23 : decode cX7_left 23 = .ok (.iconst 1, 1) := by decide +kernel
theorem dX7_left_24 : decode cX7_left 24 = .ok (.goto 4, 3) := by decide +kernel
theorem dX7_left_27 : decode cX7_left 27 = .ok (.iconst 0, 1) := by decide +kernel
theorem dX7_left_28 : decode cX7_left 28 = .ok (.invokevirtual 136, 3) := by decide +kernel
theorem dX7_left_31 : decode cX7_left 31 = .ok (.istore_n 3, 1) := by decide +kernel
theorem dX7_left_32 : decode cX7_left 32 = .ok (.iload_n 3, 1) := by decide +kernel
theorem dX7_left_33 : decode cX7_left 33 = .ok (.ifCond .eq 10, 3) := by decide +kernel
theorem dX7_left_36 : decode cX7_left 36 = .ok (.ldc2_w 140, 3) := by decide +kernel
theorem dX7_left_39 : decode cX7_left 39 = .ok (.iload_n 3, 1) := by decide +kernel
theorem dX7_left_40 : decode cX7_left 40 = .ok (.i2l, 1) := by decide +kernel
theorem dX7_left_41 : decode cX7_left 41 = .ok (.ladd, 1) := by decide +kernel
theorem dX7_left_42 : decode cX7_left 42 = .ok (.lreturn, 1) := by decide +kernel
theorem dX7_left_43 : decode cX7_left 43 = .ok (.aload_n 0, 1) := by decide +kernel
theorem dX7_left_44 : decode cX7_left 44 = .ok (.getfield 33, 3) := by decide +kernel
theorem dX7_left_47 : decode cX7_left 47 = .ok (.aload_n 0, 1) := by decide +kernel
theorem dX7_left_48 : decode cX7_left 48 = .ok (.getfield 10, 3) := by decide +kernel
theorem dX7_left_51 : decode cX7_left 51 = .ok (.aload_n 0, 1) := by decide +kernel
theorem dX7_left_52 : decode cX7_left 52 = .ok (.getfield 16, 3) := by decide +kernel
theorem dX7_left_55 : decode cX7_left 55 = .ok (.iconst 0, 1) := by decide +kernel
theorem dX7_left_56 : decode cX7_left 56 = .ok (.invokevirtual 142, 3) := by decide +kernel
theorem dX7_left_59 : decode cX7_left 59 = .ok (.aload_n 0, 1) := by decide +kernel
theorem dX7_left_60 : decode cX7_left 60 = .ok (.getfield 33, 3) := by decide +kernel
theorem dX7_left_63 : decode cX7_left 63 = .ok (.getfield 158, 3) := by decide +kernel
theorem dX7_left_66 : decode cX7_left 66 = .ok (.aload_n 0, 1) := by decide +kernel
theorem dX7_left_67 : decode cX7_left 67 = .ok (.getfield 10, 3) := by decide +kernel
theorem dX7_left_70 : decode cX7_left 70 = .ok (.getfield 88, 3) := by decide +kernel
theorem dX7_left_73 : decode cX7_left 73 = .ok (.aaload, 1) := by decide +kernel
theorem dX7_left_74 : decode cX7_left 74 = .ok (.iload_n 1, 1) := by decide +kernel
theorem dX7_left_75 : decode cX7_left 75 = .ok (.laload, 1) := by decide +kernel
theorem dX7_left_76 : decode cX7_left 76 = .ok (.aload_n 0, 1) := by decide +kernel
theorem dX7_left_77 : decode cX7_left 77 = .ok (.getfield 10, 3) := by decide +kernel
theorem dX7_left_80 : decode cX7_left 80 = .ok (.aload_n 0, 1) := by decide +kernel
theorem dX7_left_81 : decode cX7_left 81 = .ok (.getfield 10, 3) := by decide +kernel
theorem dX7_left_84 : decode cX7_left 84 = .ok (.getfield 88, 3) := by decide +kernel
theorem dX7_left_87 : decode cX7_left 87 = .ok (.invokevirtual 150, 3) := by decide +kernel
theorem dX7_left_90 : decode cX7_left 90 = .ok (.iload_n 2, 1) := by decide +kernel
theorem dX7_left_91 : decode cX7_left 91 = .ok (.invokestatic 154, 3) := by decide +kernel
theorem dX7_left_94 : decode cX7_left 94 = .ok (.lreturn, 1) := by decide +kernel
theorem dX7_best_0 : decode cX7_best 0 = .ok (.aload_n 0, 1) := by decide +kernel
theorem dX7_best_1 : decode cX7_best 1 = .ok (.aload_n 0, 1) := by decide +kernel
theorem dX7_best_2 : decode cX7_best 2 = .ok (.iload_n 1, 1) := by decide +kernel
theorem dX7_best_3 : decode cX7_best 3 = .ok (.invokevirtual 162, 3) := by decide +kernel
theorem dX7_best_6 : decode cX7_best 6 = .ok (.ifCond .eq 22, 3) := by decide +kernel
theorem dX7_best_9 : decode cX7_best 9 = .ok (.iload_n 2, 1) := by decide +kernel
theorem dX7_best_10 : decode cX7_best 10 = .ok (.iconst 1, 1) := by decide +kernel
theorem dX7_best_11 : decode cX7_best 11 = .ok (.aload_n 0, 1) := by decide +kernel
theorem dX7_best_12 : decode cX7_best 12 = .ok (.getfield 10, 3) := by decide +kernel
theorem dX7_best_15 : decode cX7_best 15 = .ok (.getfield 85, 3) := by decide +kernel
theorem dX7_best_18 : decode cX7_best 18 = .ok (.invokestatic 81, 3) := by decide +kernel
theorem dX7_best_21 : decode cX7_best 21 = .ok (.ifCond .eq 7, 3) := by decide +kernel
theorem dX7_best_24 : decode cX7_best 24 = .ok (.iconst 1, 1) := by decide +kernel
theorem dX7_best_25 : decode cX7_best 25 = .ok (.goto 4, 3) := by decide +kernel
theorem dX7_best_28 : decode cX7_best 28 = .ok (.iconst 0, 1) := by decide +kernel
theorem dX7_best_29 : decode cX7_best 29 = .ok (.invokevirtual 136, 3) := by decide +kernel
theorem dX7_best_32 : decode cX7_best 32 = .ok (.istore_n 3, 1) := by decide +kernel
theorem dX7_best_33 : decode cX7_best 33 = .ok (.iload_n 3, 1) := by decide +kernel
theorem dX7_best_34 : decode cX7_best 34 = .ok (.ifCond .eq 5, 3) := by decide +kernel
theorem dX7_best_37 : decode cX7_best 37 = .ok (.iload_n 3, 1) := by decide +kernel
theorem dX7_best_38 : decode cX7_best 38 = .ok (.ireturn, 1) := by decide +kernel
theorem dX7_best_39 : decode cX7_best 39 = .ok (.aload_n 0, 1) := by decide +kernel
theorem dX7_best_40 : decode cX7_best 40 = .ok (.invokevirtual 165, 3) := by decide +kernel
theorem dX7_best_43 : decode cX7_best 43 = .ok (.aload_n 0, 1) := by decide +kernel
theorem dX7_best_44 : decode cX7_best 44 = .ok (.getfield 23, 3) := by decide +kernel
theorem dX7_best_47 : decode cX7_best 47 = .ok (.getfield 168, 3) := by decide +kernel
theorem dX7_best_50 : decode cX7_best 50 = .ok (.iload_n 1, 1) := by decide +kernel
theorem dX7_best_51 : decode cX7_best 51 = .ok (.aaload, 1) := by decide +kernel
theorem dX7_best_52 : decode cX7_best 52 = .ok (.iload_n 2, 1) := by decide +kernel
theorem dX7_best_53 : decode cX7_best 53 = .ok (.iaload, 1) := by decide +kernel
theorem dX7_best_54 : decode cX7_best 54 = .ok (.ireturn, 1) := by decide +kernel
theorem dX7_state_0 : decode cX7_state 0 = .ok (.aload_n 0, 1) := by decide +kernel
theorem dX7_state_1 : decode cX7_state 1 = .ok (.iload_n 1, 1) := by decide +kernel
theorem dX7_state_2 : decode cX7_state 2 = .ok (.iconst 0, 1) := by decide +kernel
theorem dX7_state_3 : decode cX7_state 3 = .ok (.aload_n 0, 1) := by decide +kernel
theorem dX7_state_4 : decode cX7_state 4 = .ok (.getfield 10, 3) := by decide +kernel
theorem dX7_state_7 : decode cX7_state 7 = .ok (.getfield 88, 3) := by decide +kernel
theorem dX7_state_10 : decode cX7_state 10 = .ok (.invokestatic 81, 3) := by decide +kernel
theorem dX7_state_13 : decode cX7_state 13 = .ok (.ifCond .eq 29, 3) := by decide +kernel
theorem dX7_state_16 : decode cX7_state 16 = .ok (.iload_n 2, 1) := by decide +kernel
theorem dX7_state_17 : decode cX7_state 17 = .ok (.iconst 0, 1) := by decide +kernel
theorem dX7_state_18 : decode cX7_state 18 = .ok (.aload_n 0, 1) := by decide +kernel
theorem dX7_state_19 : decode cX7_state 19 = .ok (.getfield 10, 3) := by decide +kernel
theorem dX7_state_22 : decode cX7_state 22 = .ok (.getfield 85, 3) := by decide +kernel
theorem dX7_state_25 : decode cX7_state 25 = .ok (.invokestatic 81, 3) := by decide +kernel
theorem dX7_state_28 : decode cX7_state 28 = .ok (.ifCond .eq 14, 3) := by decide +kernel
theorem dX7_state_31 : decode cX7_state 31 = .ok (.iload_n 3, 1) := by decide +kernel
theorem dX7_state_32 : decode cX7_state 32 = .ok (.invokestatic 133, 3) := by decide +kernel
theorem dX7_state_35 : decode cX7_state 35 = .ok (.ifCond .eq 7, 3) := by decide +kernel
theorem dX7_state_38 : decode cX7_state 38 = .ok (.iconst 1, 1) := by decide +kernel
theorem dX7_state_39 : decode cX7_state 39 = .ok (.goto 4, 3) := by decide +kernel
theorem dX7_state_42 : decode cX7_state 42 = .ok (.iconst 0, 1) := by decide +kernel
theorem dX7_state_43 : decode cX7_state 43 = .ok (.invokevirtual 136, 3) := by decide +kernel
theorem dX7_state_46 : decode cX7_state 46 = .ok (.istore 4, 2) := by decide +kernel
theorem dX7_state_48 : decode cX7_state 48 = .ok (.iload 4, 2) := by decide +kernel
theorem dX7_state_50 : decode cX7_state 50 = .ok (.ifCond .eq 11, 3) := by decide +kernel
theorem dX7_state_53 : decode cX7_state 53 = .ok (.ldc2_w 140, 3) := by decide +kernel
theorem dX7_state_56 : decode cX7_state 56 = .ok (.iload 4, 2) := by decide +kernel
theorem dX7_state_58 : decode cX7_state 58 = .ok (.i2l, 1) := by decide +kernel
theorem dX7_state_59 : decode cX7_state 59 = .ok (.ladd, 1) := by decide +kernel
theorem dX7_state_60 : decode cX7_state 60 = .ok (.lreturn, 1) := by decide +kernel
theorem dX7_state_61 : decode cX7_state 61 = .ok (.aload_n 0, 1) := by decide +kernel
theorem dX7_state_62 : decode cX7_state 62 = .ok (.invokevirtual 165, 3) := by decide +kernel
theorem dX7_state_65 : decode cX7_state 65 = .ok (.aload_n 0, 1) := by decide +kernel
theorem dX7_state_66 : decode cX7_state 66 = .ok (.getfield 23, 3) := by decide +kernel
theorem dX7_state_69 : decode cX7_state 69 = .ok (.getfield 172, 3) := by decide +kernel
theorem dX7_state_72 : decode cX7_state 72 = .ok (.iload_n 1, 1) := by decide +kernel
theorem dX7_state_73 : decode cX7_state 73 = .ok (.aaload, 1) := by decide +kernel
theorem dX7_state_74 : decode cX7_state 74 = .ok (.iload_n 2, 1) := by decide +kernel
theorem dX7_state_75 : decode cX7_state 75 = .ok (.laload, 1) := by decide +kernel
theorem dX7_state_76 : decode cX7_state 76 = .ok (.aload_n 0, 1) := by decide +kernel
theorem dX7_state_77 : decode cX7_state 77 = .ok (.getfield 10, 3) := by decide +kernel
theorem dX7_state_80 : decode cX7_state 80 = .ok (.aload_n 0, 1) := by decide +kernel
theorem dX7_state_81 : decode cX7_state 81 = .ok (.getfield 10, 3) := by decide +kernel
theorem dX7_state_84 : decode cX7_state 84 = .ok (.getfield 88, 3) := by decide +kernel
theorem dX7_state_87 : decode cX7_state 87 = .ok (.iload_n 1, 1) := by decide +kernel
theorem dX7_state_88 : decode cX7_state 88 = .ok (.isub, 1) := by decide +kernel
theorem dX7_state_89 : decode cX7_state 89 = .ok (.invokevirtual 150, 3) := by decide +kernel
theorem dX7_state_92 : decode cX7_state 92 = .ok (.iload_n 3, 1) := by decide +kernel
theorem dX7_state_93 : decode cX7_state 93 = .ok (.invokestatic 154, 3) := by decide +kernel
theorem dX7_state_96 : decode cX7_state 96 = .ok (.lreturn, 1) := by decide +kernel
theorem dX7_dip_0 : decode cX7_dip 0 = .ok (.aload_n 0, 1) := by decide +kernel
theorem dX7_dip_1 : decode cX7_dip 1 = .ok (.iconst 1, 1) := by decide +kernel
theorem dX7_dip_2 : decode cX7_dip 2 = .ok (.invokevirtual 136, 3) := by decide +kernel
theorem dX7_dip_5 : decode cX7_dip 5 = .ok (.istore_n 2, 1) := by decide +kernel
theorem dX7_dip_6 : decode cX7_dip 6 = .ok (.iload_n 2, 1) := by decide +kernel
theorem dX7_dip_7 : decode cX7_dip 7 = .ok (.ifCond .eq 5, 3) := by decide +kernel
theorem dX7_dip_10 : decode cX7_dip 10 = .ok (.iload_n 2, 1) := by decide +kernel
theorem dX7_dip_11 : decode cX7_dip 11 = .ok (.ireturn, 1) := by decide +kernel
theorem dX7_dip_12 : decode cX7_dip 12 = .ok (.aload_n 0, 1) := by decide +kernel
theorem dX7_dip_13 : decode cX7_dip 13 = .ok (.invokevirtual 165, 3) := by decide +kernel
theorem dX7_dip_16 : decode cX7_dip 16 = .ok (.iconst 0, 1) := by decide +kernel
theorem dX7_dip_17 : decode cX7_dip 17 = .ok (.istore_n 3, 1) := by decide +kernel
theorem dX7_dip_18 : decode cX7_dip 18 = .ok (.iconst 0, 1) := by decide +kernel
theorem dX7_dip_19 : decode cX7_dip 19 = .ok (.istore 4, 2) := by decide +kernel
theorem dX7_dip_21 : decode cX7_dip 21 = .ok (.iload 4, 2) := by decide +kernel
theorem dX7_dip_23 : decode cX7_dip 23 = .ok (.aload_n 0, 1) := by decide +kernel
theorem dX7_dip_24 : decode cX7_dip 24 = .ok (.getfield 10, 3) := by decide +kernel
theorem dX7_dip_27 : decode cX7_dip 27 = .ok (.getfield 88, 3) := by decide +kernel
theorem dX7_dip_30 : decode cX7_dip 30 = .ok (.if_icmp .ge 78, 3) := by decide +kernel
theorem dX7_dip_33 : decode cX7_dip 33 = .ok (.iconst 1, 1) := by decide +kernel
theorem dX7_dip_34 : decode cX7_dip 34 = .ok (.istore 5, 2) := by decide +kernel
theorem dX7_dip_36 : decode cX7_dip 36 = .ok (.iload 5, 2) := by decide +kernel
theorem dX7_dip_38 : decode cX7_dip 38 = .ok (.aload_n 0, 1) := by decide +kernel
theorem dX7_dip_39 : decode cX7_dip 39 = .ok (.getfield 10, 3) := by decide +kernel
theorem dX7_dip_42 : decode cX7_dip 42 = .ok (.getfield 85, 3) := by decide +kernel
theorem dX7_dip_45 : decode cX7_dip 45 = .ok (.if_icmp .ge 57, 3) := by decide +kernel
theorem dX7_dip_48 : decode cX7_dip 48 = .ok (.aload_n 0, 1) := by decide +kernel
theorem dX7_dip_49 : decode cX7_dip 49 = .ok (.getfield 23, 3) := by decide +kernel
theorem dX7_dip_52 : decode cX7_dip 52 = .ok (.getfield 168, 3) := by decide +kernel
theorem dX7_dip_55 : decode cX7_dip 55 = .ok (.iload 4, 2) := by decide +kernel
theorem dX7_dip_57 : decode cX7_dip 57 = .ok (.aaload, 1) := by decide +kernel
theorem dX7_dip_58 : decode cX7_dip 58 = .ok (.iload 5, 2) := by decide +kernel
theorem dX7_dip_60 : decode cX7_dip 60 = .ok (.iaload, 1) := by decide +kernel
theorem dX7_dip_61 : decode cX7_dip 61 = .ok (.aload_n 0, 1) := by decide +kernel
theorem dX7_dip_62 : decode cX7_dip 62 = .ok (.getfield 23, 3) := by decide +kernel
theorem dX7_dip_65 : decode cX7_dip 65 = .ok (.getfield 168, 3) := by decide +kernel
theorem dX7_dip_68 : decode cX7_dip 68 = .ok (.iload 4, 2) := by decide +kernel
theorem dX7_dip_70 : decode cX7_dip 70 = .ok (.aaload, 1) := by decide +kernel
theorem dX7_dip_71 : decode cX7_dip 71 = .ok (.iload 5, 2) := by decide +kernel
theorem dX7_dip_73 : decode cX7_dip 73 = .ok (.iconst 1, 1) := by decide +kernel
theorem dX7_dip_74 : decode cX7_dip 74 = .ok (.iadd, 1) := by decide +kernel
theorem dX7_dip_75 : decode cX7_dip 75 = .ok (.iaload, 1) := by decide +kernel
theorem dX7_dip_76 : decode cX7_dip 76 = .ok (.if_icmp .le 20, 3) := by decide +kernel
theorem dX7_dip_79 : decode cX7_dip 79 = .ok (.iload_n 3, 1) := by decide +kernel
theorem dX7_dip_80 : decode cX7_dip 80 = .ok (.iload_n 1, 1) := by decide +kernel
theorem dX7_dip_81 : decode cX7_dip 81 = .ok (.if_icmp .ne 12, 3) := by decide +kernel
theorem dX7_dip_84 : decode cX7_dip 84 = .ok (.bipush 100, 2) := by decide +kernel
theorem dX7_dip_86 : decode cX7_dip 86 = .ok (.iload 4, 2) := by decide +kernel
theorem dX7_dip_88 : decode cX7_dip 88 = .ok (.imul, 1) := by decide +kernel
theorem dX7_dip_89 : decode cX7_dip 89 = .ok (.iload 5, 2) := by decide +kernel
theorem dX7_dip_91 : decode cX7_dip 91 = .ok (.iadd, 1) := by decide +kernel
theorem dX7_dip_92 : decode cX7_dip 92 = .ok (.ireturn, 1) := by decide +kernel
theorem dX7_dip_93 : decode cX7_dip 93 = .ok (.iinc 3 1, 3) := by decide +kernel
theorem dX7_dip_96 : decode cX7_dip 96 = .ok (.iinc 5 1, 3) := by decide +kernel
theorem dX7_dip_99 : decode cX7_dip 99 = .ok (.goto (-63), 3) := by decide +kernel
theorem dX7_dip_102 : decode cX7_dip 102 = .ok (.iinc 4 1, 3) := by decide +kernel
theorem dX7_dip_105 : decode cX7_dip 105 = .ok (.goto (-84), 3) := by decide +kernel
theorem dX7_dip_108 : decode cX7_dip 108 = .ok (.iload_n 1, 1) := by decide +kernel
theorem dX7_dip_109 : decode cX7_dip 109 = .ok (.iconst (-1), 1) := by decide +kernel
theorem dX7_dip_110 : decode cX7_dip 110 = .ok (.if_icmp .ne 7, 3) := by decide +kernel
theorem dX7_dip_113 : decode cX7_dip 113 = .ok (.iload_n 3, 1) := by decide +kernel
theorem dX7_dip_114 : decode cX7_dip 114 = .ok (.goto 5, 3) := by decide +kernel
theorem dX7_dip_117 : decode cX7_dip 117 = .ok (.bipush (-6), 2) := by decide +kernel
theorem dX7_dip_119 : decode cX7_dip 119 = .ok (.ireturn, 1) := by decide +kernel
theorem dX7_kept_0 : decode cX7_kept 0 = .ok (.aload_n 0, 1) := by decide +kernel
theorem dX7_kept_1 : decode cX7_kept 1 = .ok (.iload_n 1, 1) := by decide +kernel
theorem dX7_kept_2 : decode cX7_kept 2 = .ok (.iconst 0, 1) := by decide +kernel
theorem dX7_kept_3 : decode cX7_kept 3 = .ok (.iconst 2, 1) := by decide +kernel
theorem dX7_kept_4 : decode cX7_kept 4 = .ok (.invokestatic 81, 3) := by decide +kernel
theorem dX7_kept_7 : decode cX7_kept 7 = .ok (.ifCond .eq 15, 3) := by decide +kernel
theorem dX7_kept_10 : decode cX7_kept 10 = .ok (.aload_n 0, 1) := by decide +kernel
theorem dX7_kept_11 : decode cX7_kept 11 = .ok (.iload_n 2, 1) := by decide +kernel
theorem dX7_kept_12 : decode cX7_kept 12 = .ok (.invokevirtual 162, 3) := by decide +kernel
theorem dX7_kept_15 : decode cX7_kept 15 = .ok (.ifCond .eq 7, 3) := by decide +kernel
theorem dX7_kept_18 : decode cX7_kept 18 = .ok (.iconst 1, 1) := by decide +kernel
theorem dX7_kept_19 : decode cX7_kept 19 = .ok (.goto 4, 3) := by decide +kernel
theorem dX7_kept_22 : decode cX7_kept 22 = .ok (.iconst 0, 1) := by decide +kernel
theorem dX7_kept_23 : decode cX7_kept 23 = .ok (.invokevirtual 136, 3) := by decide +kernel
theorem dX7_kept_26 : decode cX7_kept 26 = .ok (.istore_n 3, 1) := by decide +kernel
theorem dX7_kept_27 : decode cX7_kept 27 = .ok (.iload_n 3, 1) := by decide +kernel
theorem dX7_kept_28 : decode cX7_kept 28 = .ok (.ifCond .eq 5, 3) := by decide +kernel
theorem dX7_kept_31 : decode cX7_kept 31 = .ok (.iload_n 3, 1) := by decide +kernel
theorem dX7_kept_32 : decode cX7_kept 32 = .ok (.ireturn, 1) := by decide +kernel
theorem dX7_kept_33 : decode cX7_kept 33 = .ok (.aload_n 0, 1) := by decide +kernel
theorem dX7_kept_34 : decode cX7_kept 34 = .ok (.iload_n 1, 1) := by decide +kernel
theorem dX7_kept_35 : decode cX7_kept 35 = .ok (.invokevirtual 175, 3) := by decide +kernel
theorem dX7_kept_38 : decode cX7_kept 38 = .ok (.getfield 179, 3) := by decide +kernel
theorem dX7_kept_41 : decode cX7_kept 41 = .ok (.iload_n 2, 1) := by decide +kernel
theorem dX7_kept_42 : decode cX7_kept 42 = .ok (.iaload, 1) := by decide +kernel
theorem dX7_kept_43 : decode cX7_kept 43 = .ok (.ireturn, 1) := by decide +kernel
theorem dX7_keeps_0 : decode cX7_keeps 0 = .ok (.aload_n 0, 1) := by decide +kernel
theorem dX7_keeps_1 : decode cX7_keeps 1 = .ok (.iload_n 1, 1) := by decide +kernel
theorem dX7_keeps_2 : decode cX7_keeps 2 = .ok (.iconst 0, 1) := by decide +kernel
theorem dX7_keeps_3 : decode cX7_keeps 3 = .ok (.iconst 4, 1) := by decide +kernel
theorem dX7_keeps_4 : decode cX7_keeps 4 = .ok (.invokestatic 81, 3) := by decide +kernel
theorem dX7_keeps_7 : decode cX7_keeps 7 = .ok (.ifCond .eq 14, 3) := by decide +kernel
theorem dX7_keeps_10 : decode cX7_keeps 10 = .ok (.iload_n 2, 1) := by decide +kernel
theorem dX7_keeps_11 : decode cX7_keeps 11 = .ok (.invokestatic 133, 3) := by decide +kernel
theorem dX7_keeps_14 : decode cX7_keeps 14 = .ok (.ifCond .eq 7, 3) := by decide +kernel
theorem dX7_keeps_17 : decode cX7_keeps 17 = .ok (.iconst 1, 1) := by decide +kernel
theorem dX7_keeps_18 : decode cX7_keeps 18 = .ok (.goto 4, 3) := by decide +kernel
theorem dX7_keeps_21 : decode cX7_keeps 21 = .ok (.iconst 0, 1) := by decide +kernel
theorem dX7_keeps_22 : decode cX7_keeps 22 = .ok (.invokevirtual 136, 3) := by decide +kernel
theorem dX7_keeps_25 : decode cX7_keeps 25 = .ok (.istore_n 3, 1) := by decide +kernel
theorem dX7_keeps_26 : decode cX7_keeps 26 = .ok (.iload_n 3, 1) := by decide +kernel
theorem dX7_keeps_27 : decode cX7_keeps 27 = .ok (.ifCond .eq 10, 3) := by decide +kernel
theorem dX7_keeps_30 : decode cX7_keeps 30 = .ok (.ldc2_w 140, 3) := by decide +kernel
theorem dX7_keeps_33 : decode cX7_keeps 33 = .ok (.iload_n 3, 1) := by decide +kernel
theorem dX7_keeps_34 : decode cX7_keeps 34 = .ok (.i2l, 1) := by decide +kernel
theorem dX7_keeps_35 : decode cX7_keeps 35 = .ok (.ladd, 1) := by decide +kernel
theorem dX7_keeps_36 : decode cX7_keeps 36 = .ok (.lreturn, 1) := by decide +kernel
theorem dX7_keeps_37 : decode cX7_keeps 37 = .ok (.aload_n 0, 1) := by decide +kernel
theorem dX7_keeps_38 : decode cX7_keeps 38 = .ok (.iload_n 1, 1) := by decide +kernel
theorem dX7_keeps_39 : decode cX7_keeps 39 = .ok (.invokevirtual 182, 3) := by decide +kernel
theorem dX7_keeps_42 : decode cX7_keeps 42 = .ok (.aload_n 0, 1) := by decide +kernel
theorem dX7_keeps_43 : decode cX7_keeps 43 = .ok (.getfield 10, 3) := by decide +kernel
theorem dX7_keeps_46 : decode cX7_keeps 46 = .ok (.aload_n 0, 1) := by decide +kernel
theorem dX7_keeps_47 : decode cX7_keeps 47 = .ok (.getfield 10, 3) := by decide +kernel
theorem dX7_keeps_50 : decode cX7_keeps 50 = .ok (.getfield 88, 3) := by decide +kernel
theorem dX7_keeps_53 : decode cX7_keeps 53 = .ok (.invokevirtual 150, 3) := by decide +kernel
theorem dX7_keeps_56 : decode cX7_keeps 56 = .ok (.iload_n 2, 1) := by decide +kernel
theorem dX7_keeps_57 : decode cX7_keeps 57 = .ok (.invokestatic 154, 3) := by decide +kernel
theorem dX7_keeps_60 : decode cX7_keeps 60 = .ok (.lreturn, 1) := by decide +kernel
theorem dX7_rather_0 : decode cX7_rather 0 = .ok (.aload_n 0, 1) := by decide +kernel
theorem dX7_rather_1 : decode cX7_rather 1 = .ok (.iconst 1, 1) := by decide +kernel
theorem dX7_rather_2 : decode cX7_rather 2 = .ok (.invokevirtual 136, 3) := by decide +kernel
theorem dX7_rather_5 : decode cX7_rather 5 = .ok (.istore_n 1, 1) := by decide +kernel
theorem dX7_rather_6 : decode cX7_rather 6 = .ok (.iload_n 1, 1) := by decide +kernel
theorem dX7_rather_7 : decode cX7_rather 7 = .ok (.ifCond .eq 5, 3) := by decide +kernel
theorem dX7_rather_10 : decode cX7_rather 10 = .ok (.iload_n 1, 1) := by decide +kernel
theorem dX7_rather_11 : decode cX7_rather 11 = .ok (.ireturn, 1) := by decide +kernel
theorem dX7_rather_12 : decode cX7_rather 12 = .ok (.aload_n 0, 1) := by decide +kernel
theorem dX7_rather_13 : decode cX7_rather 13 = .ok (.invokevirtual 165, 3) := by decide +kernel
theorem dX7_rather_16 : decode cX7_rather 16 = .ok (.aload_n 0, 1) := by decide +kernel
theorem dX7_rather_17 : decode cX7_rather 17 = .ok (.invokevirtual 185, 3) := by decide +kernel
theorem dX7_rather_20 : decode cX7_rather 20 = .ok (.aload_n 0, 1) := by decide +kernel
theorem dX7_rather_21 : decode cX7_rather 21 = .ok (.getfield 27, 3) := by decide +kernel
theorem dX7_rather_24 : decode cX7_rather 24 = .ok (.aload_n 0, 1) := by decide +kernel
theorem dX7_rather_25 : decode cX7_rather 25 = .ok (.getfield 47, 3) := by decide +kernel
theorem dX7_rather_28 : decode cX7_rather 28 = .ok (.getfield 179, 3) := by decide +kernel
theorem dX7_rather_31 : decode cX7_rather 31 = .ok (.invokevirtual 188, 3) := by decide +kernel
theorem dX7_rather_34 : decode cX7_rather 34 = .ok (.aload_n 0, 1) := by decide +kernel
theorem dX7_rather_35 : decode cX7_rather 35 = .ok (.getfield 27, 3) := by decide +kernel
theorem dX7_rather_38 : decode cX7_rather 38 = .ok (.aload_n 0, 1) := by decide +kernel
theorem dX7_rather_39 : decode cX7_rather 39 = .ok (.getfield 10, 3) := by decide +kernel
theorem dX7_rather_42 : decode cX7_rather 42 = .ok (.invokevirtual 192, 3) := by decide +kernel
theorem dX7_rather_45 : decode cX7_rather 45 = .ok (.aload_n 0, 1) := by decide +kernel
theorem dX7_rather_46 : decode cX7_rather 46 = .ok (.getfield 33, 3) := by decide +kernel
theorem dX7_rather_49 : decode cX7_rather 49 = .ok (.aload_n 0, 1) := by decide +kernel
theorem dX7_rather_50 : decode cX7_rather 50 = .ok (.getfield 10, 3) := by decide +kernel
theorem dX7_rather_53 : decode cX7_rather 53 = .ok (.aload_n 0, 1) := by decide +kernel
theorem dX7_rather_54 : decode cX7_rather 54 = .ok (.getfield 47, 3) := by decide +kernel
theorem dX7_rather_57 : decode cX7_rather 57 = .ok (.getfield 179, 3) := by decide +kernel
theorem dX7_rather_60 : decode cX7_rather 60 = .ok (.iconst 0, 1) := by decide +kernel
theorem dX7_rather_61 : decode cX7_rather 61 = .ok (.invokevirtual 142, 3) := by decide +kernel
theorem dX7_rather_64 : decode cX7_rather 64 = .ok (.iconst 0, 1) := by decide +kernel
theorem dX7_rather_65 : decode cX7_rather 65 = .ok (.istore_n 2, 1) := by decide +kernel
theorem dX7_rather_66 : decode cX7_rather 66 = .ok (.iload_n 2, 1) := by decide +kernel
theorem dX7_rather_67 : decode cX7_rather 67 = .ok (.aload_n 0, 1) := by decide +kernel
theorem dX7_rather_68 : decode cX7_rather 68 = .ok (.getfield 10, 3) := by decide +kernel
theorem dX7_rather_71 : decode cX7_rather 71 = .ok (.getfield 88, 3) := by decide +kernel
theorem dX7_rather_74 : decode cX7_rather 74 = .ok (.if_icmp .ge 77, 3) := by decide +kernel
theorem dX7_rather_77 : decode cX7_rather 77 = .ok (.iconst 0, 1) := by decide +kernel
theorem dX7_rather_78 : decode cX7_rather 78 = .ok (.istore_n 3, 1) := by decide +kernel
theorem dX7_rather_79 : decode cX7_rather 79 = .ok (.iload_n 3, 1) := by decide +kernel
theorem dX7_rather_80 : decode cX7_rather 80 = .ok (.aload_n 0, 1) := by decide +kernel
theorem dX7_rather_81 : decode cX7_rather 81 = .ok (.getfield 10, 3) := by decide +kernel
theorem dX7_rather_84 : decode cX7_rather 84 = .ok (.getfield 85, 3) := by decide +kernel
theorem dX7_rather_87 : decode cX7_rather 87 = .ok (.if_icmp .gt 58, 3) := by decide +kernel
theorem dX7_rather_90 : decode cX7_rather 90 = .ok (.aload_n 0, 1) := by decide +kernel
theorem dX7_rather_91 : decode cX7_rather 91 = .ok (.getfield 33, 3) := by decide +kernel
theorem dX7_rather_94 : decode cX7_rather 94 = .ok (.getfield 158, 3) := by decide +kernel
theorem dX7_rather_97 : decode cX7_rather 97 = .ok (.iload_n 2, 1) := by decide +kernel
theorem dX7_rather_98 : decode cX7_rather 98 = .ok (.aaload, 1) := by decide +kernel
theorem dX7_rather_99 : decode cX7_rather 99 = .ok (.iload_n 3, 1) := by decide +kernel
theorem dX7_rather_100 : decode cX7_rather 100 = .ok (.laload, 1) := by decide +kernel
theorem dX7_rather_101 : decode cX7_rather 101 = .ok (.lconst 0, 1) := by decide +kernel
theorem dX7_rather_102 : decode cX7_rather 102 = .ok (.lcmp, 1) := by decide +kernel
theorem dX7_rather_103 : decode cX7_rather 103 = .ok (.ifCond .le 36, 3) := by decide +kernel
theorem dX7_rather_106 : decode cX7_rather 106 = .ok (.aload_n 0, 1) := by decide +kernel
theorem dX7_rather_107 : decode cX7_rather 107 = .ok (.getfield 23, 3) := by decide +kernel
theorem dX7_rather_110 : decode cX7_rather 110 = .ok (.getfield 172, 3) := by decide +kernel
theorem dX7_rather_113 : decode cX7_rather 113 = .ok (.iload_n 2, 1) := by decide +kernel
theorem dX7_rather_114 : decode cX7_rather 114 = .ok (.aaload, 1) := by decide +kernel
theorem dX7_rather_115 : decode cX7_rather 115 = .ok (.iload_n 3, 1) := by decide +kernel
theorem dX7_rather_116 : decode cX7_rather 116 = .ok (.laload, 1) := by decide +kernel
theorem dX7_rather_117 : decode cX7_rather 117 = .ok (.aload_n 0, 1) := by decide +kernel
theorem dX7_rather_118 : decode cX7_rather 118 = .ok (.getfield 27, 3) := by decide +kernel
theorem dX7_rather_121 : decode cX7_rather 121 = .ok (.getfield 172, 3) := by decide +kernel
theorem dX7_rather_124 : decode cX7_rather 124 = .ok (.iload_n 2, 1) := by decide +kernel
theorem dX7_rather_125 : decode cX7_rather 125 = .ok (.aaload, 1) := by decide +kernel
theorem dX7_rather_126 : decode cX7_rather 126 = .ok (.iload_n 3, 1) := by decide +kernel
theorem dX7_rather_127 : decode cX7_rather 127 = .ok (.laload, 1) := by decide +kernel
theorem dX7_rather_128 : decode cX7_rather 128 = .ok (.lcmp, 1) := by decide +kernel
theorem dX7_rather_129 : decode cX7_rather 129 = .ok (.ifCond .le 10, 3) := by decide +kernel
theorem dX7_rather_132 : decode cX7_rather 132 = .ok (.bipush 100, 2) := by decide +kernel
theorem dX7_rather_134 : decode cX7_rather 134 = .ok (.iload_n 2, 1) := by decide +kernel
theorem dX7_rather_135 : decode cX7_rather 135 = .ok (.imul, 1) := by decide +kernel
theorem dX7_rather_136 : decode cX7_rather 136 = .ok (.iload_n 3, 1) := by decide +kernel
theorem dX7_rather_137 : decode cX7_rather 137 = .ok (.iadd, 1) := by decide +kernel
theorem dX7_rather_138 : decode cX7_rather 138 = .ok (.ireturn, 1) := by decide +kernel
theorem dX7_rather_139 : decode cX7_rather 139 = .ok (.iinc 3 1, 3) := by decide +kernel
theorem dX7_rather_142 : decode cX7_rather 142 = .ok (.goto (-63), 3) := by decide +kernel
theorem dX7_rather_145 : decode cX7_rather 145 = .ok (.iinc 2 1, 3) := by decide +kernel
theorem dX7_rather_148 : decode cX7_rather 148 = .ok (.goto (-82), 3) := by decide +kernel
theorem dX7_rather_151 : decode cX7_rather 151 = .ok (.bipush (-6), 2) := by decide +kernel
theorem dX7_rather_153 : decode cX7_rather 153 = .ok (.ireturn, 1) := by decide +kernel
theorem dX7_picks_0 : decode cX7_picks 0 = .ok (.aload_n 0, 1) := by decide +kernel
theorem dX7_picks_1 : decode cX7_picks 1 = .ok (.getfield 10, 3) := by decide +kernel
theorem dX7_picks_4 : decode cX7_picks 4 = .ok (.iload_n 1, 1) := by decide +kernel
theorem dX7_picks_5 : decode cX7_picks 5 = .ok (.invokevirtual 118, 3) := by decide +kernel
theorem dX7_picks_8 : decode cX7_picks 8 = .ok (.ifCond .ne 5, 3) := by decide +kernel
theorem dX7_picks_11 : decode cX7_picks 11 = .ok (.iconst (-1), 1) := by decide +kernel
theorem dX7_picks_12 : decode cX7_picks 12 = .ok (.ireturn, 1) := by decide +kernel
theorem dX7_picks_13 : decode cX7_picks 13 = .ok (.aload_n 0, 1) := by decide +kernel
theorem dX7_picks_14 : decode cX7_picks 14 = .ok (.aload_n 0, 1) := by decide +kernel
theorem dX7_picks_15 : decode cX7_picks 15 = .ok (.iload_n 2, 1) := by decide +kernel
theorem dX7_picks_16 : decode cX7_picks 16 = .ok (.invokevirtual 162, 3) := by decide +kernel
theorem dX7_picks_19 : decode cX7_picks 19 = .ok (.invokevirtual 136, 3) := by decide +kernel
theorem dX7_picks_22 : decode cX7_picks 22 = .ok (.istore_n 3, 1) := by decide +kernel
theorem dX7_picks_23 : decode cX7_picks 23 = .ok (.iload_n 3, 1) := by decide +kernel
theorem dX7_picks_24 : decode cX7_picks 24 = .ok (.ifCond .eq 5, 3) := by decide +kernel
theorem dX7_picks_27 : decode cX7_picks 27 = .ok (.iload_n 3, 1) := by decide +kernel
theorem dX7_picks_28 : decode cX7_picks 28 = .ok (.ireturn, 1) := by decide +kernel
theorem dX7_picks_29 : decode cX7_picks 29 = .ok (.aload_n 0, 1) := by decide +kernel
theorem dX7_picks_30 : decode cX7_picks 30 = .ok (.getfield 10, 3) := by decide +kernel
theorem dX7_picks_33 : decode cX7_picks 33 = .ok (.iload_n 1, 1) := by decide +kernel
theorem dX7_picks_34 : decode cX7_picks 34 = .ok (.invokevirtual 196, 3) := by decide +kernel
theorem dX7_picks_37 : decode cX7_picks 37 = .ok (.ifCond .eq 19, 3) := by decide +kernel
theorem dX7_picks_40 : decode cX7_picks 40 = .ok (.aload_n 0, 1) := by decide +kernel
theorem dX7_picks_41 : decode cX7_picks 41 = .ok (.getfield 10, 3) := by decide +kernel
theorem dX7_picks_44 : decode cX7_picks 44 = .ok (.iload_n 1, 1) := by decide +kernel
theorem dX7_picks_45 : decode cX7_picks 45 = .ok (.iload_n 2, 1) := by decide +kernel
theorem dX7_picks_46 : decode cX7_picks 46 = .ok (.aload_n 0, 1) := by decide +kernel
theorem dX7_picks_47 : decode cX7_picks 47 = .ok (.getfield 16, 3) := by decide +kernel
theorem dX7_picks_50 : decode cX7_picks 50 = .ok (.invokevirtual 199, 3) := by decide +kernel
theorem dX7_picks_53 : decode cX7_picks 53 = .ok (.goto 5, 3) := by decide +kernel
theorem dX7_picks_56 : decode cX7_picks 56 = .ok (.bipush (-5), 2) := by decide +kernel
theorem dX7_picks_58 : decode cX7_picks 58 = .ok (.ireturn, 1) := by decide +kernel
theorem dX7_made_0 : decode cX7_made 0 = .ok (.aload_n 0, 1) := by decide +kernel
theorem dX7_made_1 : decode cX7_made 1 = .ok (.iload_n 1, 1) := by decide +kernel
theorem dX7_made_2 : decode cX7_made 2 = .ok (.iconst 0, 1) := by decide +kernel
theorem dX7_made_3 : decode cX7_made 3 = .ok (.bipush 99, 2) := by decide +kernel
theorem dX7_made_5 : decode cX7_made 5 = .ok (.invokestatic 81, 3) := by decide +kernel
theorem dX7_made_8 : decode cX7_made 8 = .ok (.invokevirtual 136, 3) := by decide +kernel
theorem dX7_made_11 : decode cX7_made 11 = .ok (.istore_n 2, 1) := by decide +kernel
theorem dX7_made_12 : decode cX7_made 12 = .ok (.iload_n 2, 1) := by decide +kernel
theorem dX7_made_13 : decode cX7_made 13 = .ok (.ifCond .eq 5, 3) := by decide +kernel
theorem dX7_made_16 : decode cX7_made 16 = .ok (.iload_n 2, 1) := by decide +kernel
theorem dX7_made_17 : decode cX7_made 17 = .ok (.ireturn, 1) := by decide +kernel
theorem dX7_made_18 : decode cX7_made 18 = .ok (.aload_n 0, 1) := by decide +kernel
theorem dX7_made_19 : decode cX7_made 19 = .ok (.invokevirtual 165, 3) := by decide +kernel
theorem dX7_made_22 : decode cX7_made 22 = .ok (.iload_n 1, 1) := by decide +kernel
theorem dX7_made_23 : decode cX7_made 23 = .ok (.i2l, 1) := by decide +kernel
theorem dX7_made_24 : decode cX7_made 24 = .ok (.aload_n 0, 1) := by decide +kernel
theorem dX7_made_25 : decode cX7_made 25 = .ok (.getfield 10, 3) := by decide +kernel
theorem dX7_made_28 : decode cX7_made 28 = .ok (.aload_n 0, 1) := by decide +kernel
theorem dX7_made_29 : decode cX7_made 29 = .ok (.getfield 10, 3) := by decide +kernel
theorem dX7_made_32 : decode cX7_made 32 = .ok (.getfield 88, 3) := by decide +kernel
theorem dX7_made_35 : decode cX7_made 35 = .ok (.invokevirtual 150, 3) := by decide +kernel
theorem dX7_made_38 : decode cX7_made 38 = .ok (.lmul, 1) := by decide +kernel
theorem dX7_made_39 : decode cX7_made 39 = .ok (.lstore_n 3, 1) := by decide +kernel
theorem dX7_made_40 : decode cX7_made 40 = .ok (.iconst 0, 1) := by decide +kernel
theorem dX7_made_41 : decode cX7_made 41 = .ok (.istore 5, 2) := by decide +kernel
theorem dX7_made_43 : decode cX7_made 43 = .ok (.iconst 1, 1) := by decide +kernel
theorem dX7_made_44 : decode cX7_made 44 = .ok (.istore 6, 2) := by decide +kernel
theorem dX7_made_46 : decode cX7_made 46 = .ok (.iload 6, 2) := by decide +kernel
theorem dX7_made_48 : decode cX7_made 48 = .ok (.bipush 12, 2) := by decide +kernel
theorem dX7_made_50 : decode cX7_made 50 = .ok (.if_icmp .gt 53, 3) := by decide +kernel
theorem dX7_made_53 : decode cX7_made 53 = .ok (.aload_n 0, 1) := by decide +kernel
theorem dX7_made_54 : decode cX7_made 54 = .ok (.getfield 23, 3) := by decide +kernel
theorem dX7_made_57 : decode cX7_made 57 = .ok (.getfield 172, 3) := by decide +kernel
theorem dX7_made_60 : decode cX7_made 60 = .ok (.iconst 0, 1) := by decide +kernel
theorem dX7_made_61 : decode cX7_made 61 = .ok (.aaload, 1) := by decide +kernel
theorem dX7_made_62 : decode cX7_made 62 = .ok (.iload 6, 2) := by decide +kernel
theorem dX7_made_64 : decode cX7_made 64 = .ok (.laload, 1) := by decide +kernel
theorem dX7_made_65 : decode cX7_made 65 = .ok (.lload_n 3, 1) := by decide +kernel
theorem dX7_made_66 : decode cX7_made 66 = .ok (.iload 6, 2) := by decide +kernel
theorem dX7_made_68 : decode cX7_made 68 = .ok (.i2l, 1) := by decide +kernel
theorem dX7_made_69 : decode cX7_made 69 = .ok (.lmul, 1) := by decide +kernel
theorem dX7_made_70 : decode cX7_made 70 = .ok (.lsub, 1) := by decide +kernel
theorem dX7_made_71 : decode cX7_made 71 = .ok (.aload_n 0, 1) := by decide +kernel
theorem dX7_made_72 : decode cX7_made 72 = .ok (.getfield 23, 3) := by decide +kernel
theorem dX7_made_75 : decode cX7_made 75 = .ok (.getfield 172, 3) := by decide +kernel
theorem dX7_made_78 : decode cX7_made 78 = .ok (.iconst 0, 1) := by decide +kernel
theorem dX7_made_79 : decode cX7_made 79 = .ok (.aaload, 1) := by decide +kernel
theorem dX7_made_80 : decode cX7_made 80 = .ok (.iload 5, 2) := by decide +kernel
theorem dX7_made_82 : decode cX7_made 82 = .ok (.laload, 1) := by decide +kernel
theorem dX7_made_83 : decode cX7_made 83 = .ok (.lload_n 3, 1) := by decide +kernel
theorem dX7_made_84 : decode cX7_made 84 = .ok (.iload 5, 2) := by decide +kernel
theorem dX7_made_86 : decode cX7_made 86 = .ok (.i2l, 1) := by decide +kernel
theorem dX7_made_87 : decode cX7_made 87 = .ok (.lmul, 1) := by decide +kernel
theorem dX7_made_88 : decode cX7_made 88 = .ok (.lsub, 1) := by decide +kernel
theorem dX7_made_89 : decode cX7_made 89 = .ok (.lcmp, 1) := by decide +kernel
theorem dX7_made_90 : decode cX7_made 90 = .ok (.ifCond .le 7, 3) := by decide +kernel
theorem dX7_made_93 : decode cX7_made 93 = .ok (.iload 6, 2) := by decide +kernel
theorem dX7_made_95 : decode cX7_made 95 = .ok (.istore 5, 2) := by decide +kernel
theorem dX7_made_97 : decode cX7_made 97 = .ok (.iinc 6 1, 3) := by decide +kernel
theorem dX7_made_100 : decode cX7_made 100 = .ok (.goto (-54), 3) := by decide +kernel
theorem dX7_made_103 : decode cX7_made 103 = .ok (.iload 5, 2) := by decide +kernel
theorem dX7_made_105 : decode cX7_made 105 = .ok (.ireturn, 1) := by decide +kernel
theorem dX7_say_0 : decode cX7_say 0 = .ok (.iload_n 1, 1) := by decide +kernel
theorem dX7_say_1 : decode cX7_say 1 = .ok (.bipush 33, 2) := by decide +kernel
theorem dX7_say_3 : decode cX7_say 3 = .ok (.bipush 126, 2) := by decide +kernel
theorem dX7_say_5 : decode cX7_say 5 = .ok (.invokestatic 81, 3) := by decide +kernel
theorem dX7_say_8 : decode cX7_say 8 = .ok (.ifCond .ne 6, 3) := by decide +kernel
theorem dX7_say_11 : decode cX7_say 11 = .ok (.bipush (-2), 2) := by decide +kernel
theorem dX7_say_13 : decode cX7_say 13 = .ok (.ireturn, 1) := by decide +kernel
theorem dX7_say_14 : decode cX7_say 14 = .ok (.aload_n 0, 1) := by decide +kernel
theorem dX7_say_15 : decode cX7_say 15 = .ok (.getfield 60, 3) := by decide +kernel
theorem dX7_say_18 : decode cX7_say 18 = .ok (.getfield 203, 3) := by decide +kernel
theorem dX7_say_21 : decode cX7_say 21 = .ok (.bipush 40, 2) := by decide +kernel
theorem dX7_say_23 : decode cX7_say 23 = .ok (.if_icmp .lt 6, 3) := by decide +kernel
theorem dX7_say_26 : decode cX7_say 26 = .ok (.bipush (-4), 2) := by decide +kernel
theorem dX7_say_28 : decode cX7_say 28 = .ok (.ireturn, 1) := by decide +kernel
theorem dX7_say_29 : decode cX7_say 29 = .ok (.aload_n 0, 1) := by decide +kernel
theorem dX7_say_30 : decode cX7_say 30 = .ok (.getfield 60, 3) := by decide +kernel
theorem dX7_say_33 : decode cX7_say 33 = .ok (.getfield 206, 3) := by decide +kernel
theorem dX7_say_36 : decode cX7_say 36 = .ok (.aload_n 0, 1) := by decide +kernel
theorem dX7_say_37 : decode cX7_say 37 = .ok (.getfield 60, 3) := by decide +kernel
theorem dX7_say_40 : decode cX7_say 40 = .ok (.getfield 203, 3) := by decide +kernel
theorem dX7_say_43 : decode cX7_say 43 = .ok (.iload_n 1, 1) := by decide +kernel
theorem dX7_say_44 : decode cX7_say 44 = .ok (.iastore, 1) := by decide +kernel
theorem dX7_say_45 : decode cX7_say 45 = .ok (.aload_n 0, 1) := by decide +kernel
theorem dX7_say_46 : decode cX7_say 46 = .ok (.getfield 60, 3) := by decide +kernel
theorem dX7_say_49 : decode cX7_say 49 = .ok (.dup, 1) := by decide +kernel
theorem dX7_say_50 : decode cX7_say 50 = .ok (.getfield 203, 3) := by decide +kernel
theorem dX7_say_53 : decode cX7_say 53 = .ok (.iconst 1, 1) := by decide +kernel
theorem dX7_say_54 : decode cX7_say 54 = .ok (.iadd, 1) := by decide +kernel
theorem dX7_say_55 : decode cX7_say 55 = .ok (.putfield 203, 3) := by decide +kernel
theorem dX7_say_58 : decode cX7_say 58 = .ok (.aload_n 0, 1) := by decide +kernel
theorem dX7_say_59 : decode cX7_say 59 = .ok (.getfield 60, 3) := by decide +kernel
theorem dX7_say_62 : decode cX7_say 62 = .ok (.getfield 203, 3) := by decide +kernel
theorem dX7_say_65 : decode cX7_say 65 = .ok (.ireturn, 1) := by decide +kernel
theorem dX7_wipe_0 : decode cX7_wipe 0 = .ok (.aload_n 0, 1) := by decide +kernel
theorem dX7_wipe_1 : decode cX7_wipe 1 = .ok (.getfield 60, 3) := by decide +kernel
theorem dX7_wipe_4 : decode cX7_wipe 4 = .ok (.getfield 203, 3) := by decide +kernel
theorem dX7_wipe_7 : decode cX7_wipe 7 = .ok (.istore_n 1, 1) := by decide +kernel
theorem dX7_wipe_8 : decode cX7_wipe 8 = .ok (.aload_n 0, 1) := by decide +kernel
theorem dX7_wipe_9 : decode cX7_wipe 9 = .ok (.getfield 60, 3) := by decide +kernel
theorem dX7_wipe_12 : decode cX7_wipe 12 = .ok (.iconst 0, 1) := by decide +kernel
theorem dX7_wipe_13 : decode cX7_wipe 13 = .ok (.putfield 203, 3) := by decide +kernel
theorem dX7_wipe_16 : decode cX7_wipe 16 = .ok (.iload_n 1, 1) := by decide +kernel
theorem dX7_wipe_17 : decode cX7_wipe 17 = .ok (.ireturn, 1) := by decide +kernel
theorem dX7_fault_0 : decode cX7_fault 0 = .ok (.aload_n 0, 1) := by decide +kernel
theorem dX7_fault_1 : decode cX7_fault 1 = .ok (.getfield 60, 3) := by decide +kernel
theorem dX7_fault_4 : decode cX7_fault 4 = .ok (.invokevirtual 209, 3) := by decide +kernel
theorem dX7_fault_7 : decode cX7_fault 7 = .ok (.ireturn, 1) := by decide +kernel
theorem dX7_rule_0 : decode cX7_rule 0 = .ok (.aload_n 0, 1) := by decide +kernel
theorem dX7_rule_1 : decode cX7_rule 1 = .ok (.getfield 60, 3) := by decide +kernel
theorem dX7_rule_4 : decode cX7_rule 4 = .ok (.invokevirtual 209, 3) := by decide +kernel
theorem dX7_rule_7 : decode cX7_rule 7 = .ok (.bipush (-6), 2) := by decide +kernel
theorem dX7_rule_9 : decode cX7_rule 9 = .ok (.if_icmp .eq 6, 3) := by decide +kernel
theorem dX7_rule_12 : decode cX7_rule 12 = .ok (.bipush (-5), 2) := by decide +kernel
theorem dX7_rule_14 : decode cX7_rule 14 = .ok (.ireturn, 1) := by decide +kernel
theorem dX7_rule_15 : decode cX7_rule 15 = .ok (.aload_n 0, 1) := by decide +kernel
theorem dX7_rule_16 : decode cX7_rule 16 = .ok (.getfield 67, 3) := by decide +kernel
theorem dX7_rule_19 : decode cX7_rule 19 = .ok (.aload_n 0, 1) := by decide +kernel
theorem dX7_rule_20 : decode cX7_rule 20 = .ok (.getfield 60, 3) := by decide +kernel
theorem dX7_rule_23 : decode cX7_rule 23 = .ok (.invokevirtual 213, 3) := by decide +kernel
theorem dX7_rule_26 : decode cX7_rule 26 = .ok (.aload_n 0, 1) := by decide +kernel
theorem dX7_rule_27 : decode cX7_rule 27 = .ok (.getfield 60, 3) := by decide +kernel
theorem dX7_rule_30 : decode cX7_rule 30 = .ok (.iconst 0, 1) := by decide +kernel
theorem dX7_rule_31 : decode cX7_rule 31 = .ok (.putfield 203, 3) := by decide +kernel
theorem dX7_rule_34 : decode cX7_rule 34 = .ok (.aload_n 0, 1) := by decide +kernel
theorem dX7_rule_35 : decode cX7_rule 35 = .ok (.getfield 67, 3) := by decide +kernel
theorem dX7_rule_38 : decode cX7_rule 38 = .ok (.getfield 217, 3) := by decide +kernel
theorem dX7_rule_41 : decode cX7_rule 41 = .ok (.ireturn, 1) := by decide +kernel
theorem dX7_asks_0 : decode cX7_asks 0 = .ok (.aload_n 0, 1) := by decide +kernel
theorem dX7_asks_1 : decode cX7_asks 1 = .ok (.iload_n 1, 1) := by decide +kernel
theorem dX7_asks_2 : decode cX7_asks 2 = .ok (.iconst 0, 1) := by decide +kernel
theorem dX7_asks_3 : decode cX7_asks 3 = .ok (.iconst 5, 1) := by decide +kernel
theorem dX7_asks_4 : decode cX7_asks 4 = .ok (.invokestatic 81, 3) := by decide +kernel
theorem dX7_asks_7 : decode cX7_asks 7 = .ok (.ifCond .eq 17, 3) := by decide +kernel
theorem dX7_asks_10 : decode cX7_asks 10 = .ok (.iload_n 2, 1) := by decide +kernel
theorem dX7_asks_11 : decode cX7_asks 11 = .ok (.iconst 0, 1) := by decide +kernel
theorem dX7_asks_12 : decode cX7_asks 12 = .ok (.bipush 12, 2) := by decide +kernel
theorem dX7_asks_14 : decode cX7_asks 14 = .ok (.invokestatic 81, 3) := by decide +kernel
theorem dX7_asks_17 : decode cX7_asks 17 = .ok (.ifCond .eq 7, 3) := by decide +kernel
theorem dX7_asks_20 : decode cX7_asks 20 = .ok (.iconst 1, 1) := by decide +kernel
theorem dX7_asks_21 : decode cX7_asks 21 = .ok (.goto 4, 3) := by decide +kernel
theorem dX7_asks_24 : decode cX7_asks 24 = .ok (.iconst 0, 1) := by decide +kernel
theorem dX7_asks_25 : decode cX7_asks 25 = .ok (.invokevirtual 220, 3) := by decide +kernel
theorem dX7_asks_28 : decode cX7_asks 28 = .ok (.istore_n 3, 1) := by decide +kernel
theorem dX7_asks_29 : decode cX7_asks 29 = .ok (.iload_n 3, 1) := by decide +kernel
theorem dX7_asks_30 : decode cX7_asks 30 = .ok (.ifCond .eq 7, 3) := by decide +kernel
theorem dX7_asks_33 : decode cX7_asks 33 = .ok (.iload_n 3, 1) := by decide +kernel
theorem dX7_asks_34 : decode cX7_asks 34 = .ok (.goto 19, 3) := by decide +kernel
theorem dX7_asks_37 : decode cX7_asks 37 = .ok (.aload_n 0, 1) := by decide +kernel
theorem dX7_asks_38 : decode cX7_asks 38 = .ok (.getfield 67, 3) := by decide +kernel
theorem dX7_asks_41 : decode cX7_asks 41 = .ok (.iload_n 1, 1) := by decide +kernel
theorem dX7_asks_42 : decode cX7_asks 42 = .ok (.iload_n 2, 1) := by decide +kernel
theorem dX7_asks_43 : decode cX7_asks 43 = .ok (.aload_n 0, 1) := by decide +kernel
theorem dX7_asks_44 : decode cX7_asks 44 = .ok (.getfield 10, 3) := by decide +kernel
theorem dX7_asks_47 : decode cX7_asks 47 = .ok (.getfield 97, 3) := by decide +kernel
theorem dX7_asks_50 : decode cX7_asks 50 = .ok (.invokevirtual 223, 3) := by decide +kernel
theorem dX7_asks_53 : decode cX7_asks 53 = .ok (.ireturn, 1) := by decide +kernel
theorem dX7_boy_0 : decode cX7_boy 0 = .ok (.aload_n 0, 1) := by decide +kernel
theorem dX7_boy_1 : decode cX7_boy 1 = .ok (.iload_n 1, 1) := by decide +kernel
theorem dX7_boy_2 : decode cX7_boy 2 = .ok (.invokestatic 133, 3) := by decide +kernel
theorem dX7_boy_5 : decode cX7_boy 5 = .ok (.invokevirtual 220, 3) := by decide +kernel
theorem dX7_boy_8 : decode cX7_boy 8 = .ok (.istore_n 2, 1) := by decide +kernel
theorem dX7_boy_9 : decode cX7_boy 9 = .ok (.iload_n 2, 1) := by decide +kernel
theorem dX7_boy_10 : decode cX7_boy 10 = .ok (.ifCond .eq 10, 3) := by decide +kernel
theorem dX7_boy_13 : decode cX7_boy 13 = .ok (.ldc2_w 140, 3) := by decide +kernel
theorem dX7_boy_16 : decode cX7_boy 16 = .ok (.iload_n 2, 1) := by decide +kernel
theorem dX7_boy_17 : decode cX7_boy 17 = .ok (.i2l, 1) := by decide +kernel
theorem dX7_boy_18 : decode cX7_boy 18 = .ok (.ladd, 1) := by decide +kernel
theorem dX7_boy_19 : decode cX7_boy 19 = .ok (.lreturn, 1) := by decide +kernel
theorem dX7_boy_20 : decode cX7_boy 20 = .ok (.aload_n 0, 1) := by decide +kernel
theorem dX7_boy_21 : decode cX7_boy 21 = .ok (.invokevirtual 227, 3) := by decide +kernel
theorem dX7_boy_24 : decode cX7_boy 24 = .ok (.aload_n 0, 1) := by decide +kernel
theorem dX7_boy_25 : decode cX7_boy 25 = .ok (.getfield 27, 3) := by decide +kernel
theorem dX7_boy_28 : decode cX7_boy 28 = .ok (.getfield 172, 3) := by decide +kernel
theorem dX7_boy_31 : decode cX7_boy 31 = .ok (.iconst 0, 1) := by decide +kernel
theorem dX7_boy_32 : decode cX7_boy 32 = .ok (.aaload, 1) := by decide +kernel
theorem dX7_boy_33 : decode cX7_boy 33 = .ok (.aload_n 0, 1) := by decide +kernel
theorem dX7_boy_34 : decode cX7_boy 34 = .ok (.getfield 10, 3) := by decide +kernel
theorem dX7_boy_37 : decode cX7_boy 37 = .ok (.getfield 85, 3) := by decide +kernel
theorem dX7_boy_40 : decode cX7_boy 40 = .ok (.laload, 1) := by decide +kernel
theorem dX7_boy_41 : decode cX7_boy 41 = .ok (.aload_n 0, 1) := by decide +kernel
theorem dX7_boy_42 : decode cX7_boy 42 = .ok (.getfield 10, 3) := by decide +kernel
theorem dX7_boy_45 : decode cX7_boy 45 = .ok (.aload_n 0, 1) := by decide +kernel
theorem dX7_boy_46 : decode cX7_boy 46 = .ok (.getfield 10, 3) := by decide +kernel
theorem dX7_boy_49 : decode cX7_boy 49 = .ok (.getfield 88, 3) := by decide +kernel
theorem dX7_boy_52 : decode cX7_boy 52 = .ok (.invokevirtual 150, 3) := by decide +kernel
theorem dX7_boy_55 : decode cX7_boy 55 = .ok (.iload_n 1, 1) := by decide +kernel
theorem dX7_boy_56 : decode cX7_boy 56 = .ok (.invokestatic 154, 3) := by decide +kernel
theorem dX7_boy_59 : decode cX7_boy 59 = .ok (.lreturn, 1) := by decide +kernel
theorem dX7_worst_0 : decode cX7_worst 0 = .ok (.aload_n 0, 1) := by decide +kernel
theorem dX7_worst_1 : decode cX7_worst 1 = .ok (.iconst 1, 1) := by decide +kernel
theorem dX7_worst_2 : decode cX7_worst 2 = .ok (.invokevirtual 220, 3) := by decide +kernel
theorem dX7_worst_5 : decode cX7_worst 5 = .ok (.istore_n 1, 1) := by decide +kernel
theorem dX7_worst_6 : decode cX7_worst 6 = .ok (.iload_n 1, 1) := by decide +kernel
theorem dX7_worst_7 : decode cX7_worst 7 = .ok (.ifCond .eq 5, 3) := by decide +kernel
theorem dX7_worst_10 : decode cX7_worst 10 = .ok (.iload_n 1, 1) := by decide +kernel
theorem dX7_worst_11 : decode cX7_worst 11 = .ok (.ireturn, 1) := by decide +kernel
theorem dX7_worst_12 : decode cX7_worst 12 = .ok (.aload_n 0, 1) := by decide +kernel
theorem dX7_worst_13 : decode cX7_worst 13 = .ok (.invokevirtual 165, 3) := by decide +kernel
theorem dX7_worst_16 : decode cX7_worst 16 = .ok (.aload_n 0, 1) := by decide +kernel
theorem dX7_worst_17 : decode cX7_worst 17 = .ok (.invokevirtual 227, 3) := by decide +kernel
theorem dX7_worst_20 : decode cX7_worst 20 = .ok (.iconst 1, 1) := by decide +kernel
theorem dX7_worst_21 : decode cX7_worst 21 = .ok (.istore_n 2, 1) := by decide +kernel
theorem dX7_worst_22 : decode cX7_worst 22 = .ok (.aload_n 0, 1) := by decide +kernel
theorem dX7_worst_23 : decode cX7_worst 23 = .ok (.getfield 23, 3) := by decide +kernel
theorem dX7_worst_26 : decode cX7_worst 26 = .ok (.getfield 172, 3) := by decide +kernel
theorem dX7_worst_29 : decode cX7_worst 29 = .ok (.iconst 0, 1) := by decide +kernel
theorem dX7_worst_30 : decode cX7_worst 30 = .ok (.aaload, 1) := by decide +kernel
theorem dX7_worst_31 : decode cX7_worst 31 = .ok (.iconst 1, 1) := by decide +kernel
theorem dX7_worst_32 : decode cX7_worst 32 = .ok (.laload, 1) := by decide +kernel
theorem dX7_worst_33 : decode cX7_worst 33 = .ok (.aload_n 0, 1) := by decide +kernel
theorem dX7_worst_34 : decode cX7_worst 34 = .ok (.getfield 27, 3) := by decide +kernel
theorem dX7_worst_37 : decode cX7_worst 37 = .ok (.getfield 172, 3) := by decide +kernel
theorem dX7_worst_40 : decode cX7_worst 40 = .ok (.iconst 0, 1) := by decide +kernel
theorem dX7_worst_41 : decode cX7_worst 41 = .ok (.aaload, 1) := by decide +kernel
theorem dX7_worst_42 : decode cX7_worst 42 = .ok (.iconst 1, 1) := by decide +kernel
theorem dX7_worst_43 : decode cX7_worst 43 = .ok (.laload, 1) := by decide +kernel
theorem dX7_worst_44 : decode cX7_worst 44 = .ok (.lsub, 1) := by decide +kernel
theorem dX7_worst_45 : decode cX7_worst 45 = .ok (.lstore_n 3, 1) := by decide +kernel
theorem dX7_worst_46 : decode cX7_worst 46 = .ok (.iconst 2, 1) := by decide +kernel
theorem dX7_worst_47 : decode cX7_worst 47 = .ok (.istore 5, 2) := by decide +kernel
theorem dX7_worst_49 : decode cX7_worst 49 = .ok (.iload 5, 2) := by decide +kernel
theorem dX7_worst_51 : decode cX7_worst 51 = .ok (.bipush 12, 2) := by decide +kernel
theorem dX7_worst_53 : decode cX7_worst 53 = .ok (.if_icmp .gt 49, 3) := by decide +kernel
theorem dX7_worst_56 : decode cX7_worst 56 = .ok (.aload_n 0, 1) := by decide +kernel
theorem dX7_worst_57 : decode cX7_worst 57 = .ok (.getfield 23, 3) := by decide +kernel
theorem dX7_worst_60 : decode cX7_worst 60 = .ok (.getfield 172, 3) := by decide +kernel
theorem dX7_worst_63 : decode cX7_worst 63 = .ok (.iconst 0, 1) := by decide +kernel
theorem dX7_worst_64 : decode cX7_worst 64 = .ok (.aaload, 1) := by decide +kernel
theorem dX7_worst_65 : decode cX7_worst 65 = .ok (.iload 5, 2) := by decide +kernel
theorem dX7_worst_67 : decode cX7_worst 67 = .ok (.laload, 1) := by decide +kernel
theorem dX7_worst_68 : decode cX7_worst 68 = .ok (.aload_n 0, 1) := by decide +kernel
theorem dX7_worst_69 : decode cX7_worst 69 = .ok (.getfield 27, 3) := by decide +kernel
theorem dX7_worst_72 : decode cX7_worst 72 = .ok (.getfield 172, 3) := by decide +kernel
theorem dX7_worst_75 : decode cX7_worst 75 = .ok (.iconst 0, 1) := by decide +kernel
theorem dX7_worst_76 : decode cX7_worst 76 = .ok (.aaload, 1) := by decide +kernel
theorem dX7_worst_77 : decode cX7_worst 77 = .ok (.iload 5, 2) := by decide +kernel
theorem dX7_worst_79 : decode cX7_worst 79 = .ok (.laload, 1) := by decide +kernel
theorem dX7_worst_80 : decode cX7_worst 80 = .ok (.lsub, 1) := by decide +kernel
theorem dX7_worst_81 : decode cX7_worst 81 = .ok (.lstore 6, 2) := by decide +kernel
theorem dX7_worst_83 : decode cX7_worst 83 = .ok (.lload 6, 2) := by decide +kernel
theorem dX7_worst_85 : decode cX7_worst 85 = .ok (.lload_n 3, 1) := by decide +kernel
theorem dX7_worst_86 : decode cX7_worst 86 = .ok (.lcmp, 1) := by decide +kernel
theorem dX7_worst_87 : decode cX7_worst 87 = .ok (.ifCond .le 9, 3) := by decide +kernel
theorem dX7_worst_90 : decode cX7_worst 90 = .ok (.lload 6, 2) := by decide +kernel
theorem dX7_worst_92 : decode cX7_worst 92 = .ok (.lstore_n 3, 1) := by decide +kernel
theorem dX7_worst_93 : decode cX7_worst 93 = .ok (.iload 5, 2) := by decide +kernel
theorem dX7_worst_95 : decode cX7_worst 95 = .ok (.istore_n 2, 1) := by decide +kernel
theorem dX7_worst_96 : decode cX7_worst 96 = .ok (.iinc 5 1, 3) := by decide +kernel
theorem dX7_worst_99 : decode cX7_worst 99 = .ok (.goto (-50), 3) := by decide +kernel
theorem dX7_worst_102 : decode cX7_worst 102 = .ok (.iload_n 2, 1) := by decide +kernel
theorem dX7_worst_103 : decode cX7_worst 103 = .ok (.ireturn, 1) := by decide +kernel
theorem dX7_edge_0 : decode cX7_edge 0 = .ok (.aload_n 0, 1) := by decide +kernel
theorem dX7_edge_1 : decode cX7_edge 1 = .ok (.getfield 10, 3) := by decide +kernel
theorem dX7_edge_4 : decode cX7_edge 4 = .ok (.iload_n 1, 1) := by decide +kernel
theorem dX7_edge_5 : decode cX7_edge 5 = .ok (.invokevirtual 118, 3) := by decide +kernel
theorem dX7_edge_8 : decode cX7_edge 8 = .ok (.ifCond .ne 5, 3) := by decide +kernel
theorem dX7_edge_11 : decode cX7_edge 11 = .ok (.iconst (-1), 1) := by decide +kernel
theorem dX7_edge_12 : decode cX7_edge 12 = .ok (.ireturn, 1) := by decide +kernel
theorem dX7_edge_13 : decode cX7_edge 13 = .ok (.aload_n 0, 1) := by decide +kernel
theorem dX7_edge_14 : decode cX7_edge 14 = .ok (.getfield 10, 3) := by decide +kernel
theorem dX7_edge_17 : decode cX7_edge 17 = .ok (.getfield 97, 3) := by decide +kernel
theorem dX7_edge_20 : decode cX7_edge 20 = .ok (.ifCond .eq 13, 3) := by decide +kernel
theorem dX7_edge_23 : decode cX7_edge 23 = .ok (.aload_n 0, 1) := by decide +kernel
theorem dX7_edge_24 : decode cX7_edge 24 = .ok (.getfield 10, 3) := by decide +kernel
theorem dX7_edge_27 : decode cX7_edge 27 = .ok (.getfield 85, 3) := by decide +kernel
theorem dX7_edge_30 : decode cX7_edge 30 = .ok (.ifCond .ne 6, 3) := by decide +kernel
theorem dX7_edge_33 : decode cX7_edge 33 = .ok (.bipush (-3), 2) := by decide +kernel
theorem dX7_edge_35 : decode cX7_edge 35 = .ok (.ireturn, 1) := by decide +kernel
theorem dX7_edge_36 : decode cX7_edge 36 = .ok (.aload_n 0, 1) := by decide +kernel
theorem dX7_edge_37 : decode cX7_edge 37 = .ok (.getfield 10, 3) := by decide +kernel
theorem dX7_edge_40 : decode cX7_edge 40 = .ok (.getfield 106, 3) := by decide +kernel
theorem dX7_edge_43 : decode cX7_edge 43 = .ok (.iload_n 1, 1) := by decide +kernel
theorem dX7_edge_44 : decode cX7_edge 44 = .ok (.iaload, 1) := by decide +kernel
theorem dX7_edge_45 : decode cX7_edge 45 = .ok (.istore_n 2, 1) := by decide +kernel
theorem dX7_edge_46 : decode cX7_edge 46 = .ok (.iconst 1, 1) := by decide +kernel
theorem dX7_edge_47 : decode cX7_edge 47 = .ok (.istore_n 3, 1) := by decide +kernel
theorem dX7_edge_48 : decode cX7_edge 48 = .ok (.iload_n 3, 1) := by decide +kernel
theorem dX7_edge_49 : decode cX7_edge 49 = .ok (.iconst 4, 1) := by decide +kernel
theorem dX7_edge_50 : decode cX7_edge 50 = .ok (.if_icmp .gt 52, 3) := by decide +kernel
theorem dX7_edge_53 : decode cX7_edge 53 = .ok (.iload_n 2, 1) := by decide +kernel
theorem dX7_edge_54 : decode cX7_edge 54 = .ok (.iload_n 3, 1) := by decide +kernel
theorem dX7_edge_55 : decode cX7_edge 55 = .ok (.isub, 1) := by decide +kernel
theorem dX7_edge_56 : decode cX7_edge 56 = .ok (.ifCond .lt 18, 3) := by decide +kernel
theorem dX7_edge_59 : decode cX7_edge 59 = .ok (.aload_n 0, 1) := by decide +kernel
theorem dX7_edge_60 : decode cX7_edge 60 = .ok (.iload_n 1, 1) := by decide +kernel
theorem dX7_edge_61 : decode cX7_edge 61 = .ok (.iload_n 2, 1) := by decide +kernel
theorem dX7_edge_62 : decode cX7_edge 62 = .ok (.iload_n 3, 1) := by decide +kernel
theorem dX7_edge_63 : decode cX7_edge 63 = .ok (.isub, 1) := by decide +kernel
theorem dX7_edge_64 : decode cX7_edge 64 = .ok (.invokevirtual 230, 3) := by decide +kernel
theorem dX7_edge_67 : decode cX7_edge 67 = .ok (.ifCond .eq 7, 3) := by decide +kernel
theorem dX7_edge_70 : decode cX7_edge 70 = .ok (.iload_n 2, 1) := by decide +kernel
theorem dX7_edge_71 : decode cX7_edge 71 = .ok (.iload_n 3, 1) := by decide +kernel
theorem dX7_edge_72 : decode cX7_edge 72 = .ok (.isub, 1) := by decide +kernel
theorem dX7_edge_73 : decode cX7_edge 73 = .ok (.ireturn, 1) := by decide +kernel
theorem dX7_edge_74 : decode cX7_edge 74 = .ok (.iload_n 2, 1) := by decide +kernel
theorem dX7_edge_75 : decode cX7_edge 75 = .ok (.iload_n 3, 1) := by decide +kernel
theorem dX7_edge_76 : decode cX7_edge 76 = .ok (.iadd, 1) := by decide +kernel
theorem dX7_edge_77 : decode cX7_edge 77 = .ok (.iconst 4, 1) := by decide +kernel
theorem dX7_edge_78 : decode cX7_edge 78 = .ok (.if_icmp .gt 18, 3) := by decide +kernel
theorem dX7_edge_81 : decode cX7_edge 81 = .ok (.aload_n 0, 1) := by decide +kernel
theorem dX7_edge_82 : decode cX7_edge 82 = .ok (.iload_n 1, 1) := by decide +kernel
theorem dX7_edge_83 : decode cX7_edge 83 = .ok (.iload_n 2, 1) := by decide +kernel
theorem dX7_edge_84 : decode cX7_edge 84 = .ok (.iload_n 3, 1) := by decide +kernel
theorem dX7_edge_85 : decode cX7_edge 85 = .ok (.iadd, 1) := by decide +kernel
theorem dX7_edge_86 : decode cX7_edge 86 = .ok (.invokevirtual 230, 3) := by decide +kernel
theorem dX7_edge_89 : decode cX7_edge 89 = .ok (.ifCond .eq 7, 3) := by decide +kernel
theorem dX7_edge_92 : decode cX7_edge 92 = .ok (.iload_n 2, 1) := by decide +kernel
theorem dX7_edge_93 : decode cX7_edge 93 = .ok (.iload_n 3, 1) := by decide +kernel
theorem dX7_edge_94 : decode cX7_edge 94 = .ok (.iadd, 1) := by decide +kernel
theorem dX7_edge_95 : decode cX7_edge 95 = .ok (.ireturn, 1) := by decide +kernel
theorem dX7_edge_96 : decode cX7_edge 96 = .ok (.iinc 3 1, 3) := by decide +kernel
theorem dX7_edge_99 : decode cX7_edge 99 = .ok (.goto (-51), 3) := by decide +kernel
theorem dX7_edge_102 : decode cX7_edge 102 = .ok (.bipush (-6), 2) := by decide +kernel
theorem dX7_edge_104 : decode cX7_edge 104 = .ok (.ireturn, 1) := by decide +kernel
theorem dX7_told_0 : decode cX7_told 0 = .ok (.iload_n 1, 1) := by decide +kernel
theorem dX7_told_1 : decode cX7_told 1 = .ok (.bipush 10, 2) := by decide +kernel
theorem dX7_told_3 : decode cX7_told 3 = .ok (.bipush 15, 2) := by decide +kernel
theorem dX7_told_5 : decode cX7_told 5 = .ok (.invokestatic 81, 3) := by decide +kernel
theorem dX7_told_8 : decode cX7_told 8 = .ok (.ifCond .eq 13, 3) := by decide +kernel
theorem dX7_told_11 : decode cX7_told 11 = .ok (.aload_n 0, 1) := by decide +kernel
theorem dX7_told_12 : decode cX7_told 12 = .ok (.getfield 16, 3) := by decide +kernel
theorem dX7_told_15 : decode cX7_told 15 = .ok (.iload_n 1, 1) := by decide +kernel
theorem dX7_told_16 : decode cX7_told 16 = .ok (.bipush 10, 2) := by decide +kernel
theorem dX7_told_18 : decode cX7_told 18 = .ok (.isub, 1) := by decide +kernel
theorem dX7_told_19 : decode cX7_told 19 = .ok (.iaload, 1) := by decide +kernel
theorem dX7_told_20 : decode cX7_told 20 = .ok (.ireturn, 1) := by decide +kernel
theorem dX7_told_21 : decode cX7_told 21 = .ok (.iload_n 1, 1) := by decide +kernel
theorem dX7_told_22 : decode cX7_told 22 = .ok (.bipush 20, 2) := by decide +kernel
theorem dX7_told_24 : decode cX7_told 24 = .ok (.bipush 24, 2) := by decide +kernel
theorem dX7_told_26 : decode cX7_told 26 = .ok (.invokestatic 81, 3) := by decide +kernel
theorem dX7_told_29 : decode cX7_told 29 = .ok (.ifCond .eq 35, 3) := by decide +kernel
theorem dX7_told_32 : decode cX7_told 32 = .ok (.aload_n 0, 1) := by decide +kernel
theorem dX7_told_33 : decode cX7_told 33 = .ok (.getfield 10, 3) := by decide +kernel
theorem dX7_told_36 : decode cX7_told 36 = .ok (.iload_n 1, 1) := by decide +kernel
theorem dX7_told_37 : decode cX7_told 37 = .ok (.bipush 20, 2) := by decide +kernel
theorem dX7_told_39 : decode cX7_told 39 = .ok (.isub, 1) := by decide +kernel
theorem dX7_told_40 : decode cX7_told 40 = .ok (.invokevirtual 130, 3) := by decide +kernel
theorem dX7_told_43 : decode cX7_told 43 = .ok (.ifCond .eq 18, 3) := by decide +kernel
theorem dX7_told_46 : decode cX7_told 46 = .ok (.aload_n 0, 1) := by decide +kernel
theorem dX7_told_47 : decode cX7_told 47 = .ok (.getfield 10, 3) := by decide +kernel
theorem dX7_told_50 : decode cX7_told 50 = .ok (.getfield 100, 3) := by decide +kernel
theorem dX7_told_53 : decode cX7_told 53 = .ok (.iload_n 1, 1) := by decide +kernel
theorem dX7_told_54 : decode cX7_told 54 = .ok (.bipush 20, 2) := by decide +kernel
theorem dX7_told_56 : decode cX7_told 56 = .ok (.isub, 1) := by decide +kernel
theorem dX7_told_57 : decode cX7_told 57 = .ok (.iaload, 1) := by decide +kernel
theorem dX7_told_58 : decode cX7_told 58 = .ok (.goto 5, 3) := by decide +kernel
theorem dX7_told_61 : decode cX7_told 61 = .ok (.bipush (-6), 2) := by decide +kernel
theorem dX7_told_63 : decode cX7_told 63 = .ok (.ireturn, 1) := by decide +kernel
theorem dX7_told_64 : decode cX7_told 64 = .ok (.iload_n 1, 1) := by decide +kernel
theorem dX7_told_65 : decode cX7_told 65 = .ok (.bipush 30, 2) := by decide +kernel
theorem dX7_told_67 : decode cX7_told 67 = .ok (.bipush 32, 2) := by decide +kernel
theorem dX7_told_69 : decode cX7_told 69 = .ok (.invokestatic 81, 3) := by decide +kernel
theorem dX7_told_72 : decode cX7_told 72 = .ok (.ifCond .eq 34, 3) := by decide +kernel
theorem dX7_told_75 : decode cX7_told 75 = .ok (.aload_n 0, 1) := by decide +kernel
theorem dX7_told_76 : decode cX7_told 76 = .ok (.getfield 10, 3) := by decide +kernel
theorem dX7_told_79 : decode cX7_told 79 = .ok (.iload_n 1, 1) := by decide +kernel
theorem dX7_told_80 : decode cX7_told 80 = .ok (.bipush 30, 2) := by decide +kernel
theorem dX7_told_82 : decode cX7_told 82 = .ok (.isub, 1) := by decide +kernel
theorem dX7_told_83 : decode cX7_told 83 = .ok (.invokevirtual 118, 3) := by decide +kernel
theorem dX7_told_86 : decode cX7_told 86 = .ok (.ifCond .eq 17, 3) := by decide +kernel
theorem dX7_told_89 : decode cX7_told 89 = .ok (.aload_n 0, 1) := by decide +kernel
theorem dX7_told_90 : decode cX7_told 90 = .ok (.getfield 10, 3) := by decide +kernel
theorem dX7_told_93 : decode cX7_told 93 = .ok (.iload_n 1, 1) := by decide +kernel
theorem dX7_told_94 : decode cX7_told 94 = .ok (.bipush 30, 2) := by decide +kernel
theorem dX7_told_96 : decode cX7_told 96 = .ok (.isub, 1) := by decide +kernel
theorem dX7_told_97 : decode cX7_told 97 = .ok (.invokevirtual 122, 3) := by decide +kernel
theorem dX7_told_100 : decode cX7_told 100 = .ok (.goto 5, 3) := by decide +kernel
theorem dX7_told_103 : decode cX7_told 103 = .ok (.bipush (-6), 2) := by decide +kernel
theorem dX7_told_105 : decode cX7_told 105 = .ok (.ireturn, 1) := by decide +kernel
theorem dX7_told_106 : decode cX7_told 106 = .ok (.iload_n 1, 1) := by decide +kernel
theorem dX7_told_107 : decode cX7_told 107 = .ok (.tableswitch 85 0 5 #[37, 45, 53, 61, 69, 77], 37) := by decide +kernel
theorem dX7_told_144 : decode cX7_told 144 = .ok (.aload_n 0, 1) := by decide +kernel
theorem dX7_told_145 : decode cX7_told 145 = .ok (.getfield 10, 3) := by decide +kernel
theorem dX7_told_148 : decode cX7_told 148 = .ok (.getfield 85, 3) := by decide +kernel
theorem dX7_told_151 : decode cX7_told 151 = .ok (.ireturn, 1) := by decide +kernel
theorem dX7_told_152 : decode cX7_told 152 = .ok (.aload_n 0, 1) := by decide +kernel
theorem dX7_told_153 : decode cX7_told 153 = .ok (.getfield 10, 3) := by decide +kernel
theorem dX7_told_156 : decode cX7_told 156 = .ok (.getfield 88, 3) := by decide +kernel
theorem dX7_told_159 : decode cX7_told 159 = .ok (.ireturn, 1) := by decide +kernel
theorem dX7_told_160 : decode cX7_told 160 = .ok (.aload_n 0, 1) := by decide +kernel
theorem dX7_told_161 : decode cX7_told 161 = .ok (.getfield 10, 3) := by decide +kernel
theorem dX7_told_164 : decode cX7_told 164 = .ok (.getfield 91, 3) := by decide +kernel
theorem dX7_told_167 : decode cX7_told 167 = .ok (.ireturn, 1) := by decide +kernel
theorem dX7_told_168 : decode cX7_told 168 = .ok (.aload_n 0, 1) := by decide +kernel
theorem dX7_told_169 : decode cX7_told 169 = .ok (.getfield 10, 3) := by decide +kernel
theorem dX7_told_172 : decode cX7_told 172 = .ok (.getfield 97, 3) := by decide +kernel
theorem dX7_told_175 : decode cX7_told 175 = .ok (.ireturn, 1) := by decide +kernel
theorem dX7_told_176 : decode cX7_told 176 = .ok (.aload_n 0, 1) := by decide +kernel
theorem dX7_told_177 : decode cX7_told 177 = .ok (.getfield 10, 3) := by decide +kernel
theorem dX7_told_180 : decode cX7_told 180 = .ok (.getfield 103, 3) := by decide +kernel
theorem dX7_told_183 : decode cX7_told 183 = .ok (.ireturn, 1) := by decide +kernel
theorem dX7_told_184 : decode cX7_told 184 = .ok (.aload_n 0, 1) := by decide +kernel
theorem dX7_told_185 : decode cX7_told 185 = .ok (.getfield 60, 3) := by decide +kernel
theorem dX7_told_188 : decode cX7_told 188 = .ok (.getfield 203, 3) := by decide +kernel
theorem dX7_told_191 : decode cX7_told 191 = .ok (.ireturn, 1) := by decide +kernel
theorem dX7_told_192 : decode cX7_told 192 = .ok (.bipush (-2), 2) := by decide +kernel
theorem dX7_told_194 : decode cX7_told 194 = .ok (.ireturn, 1) := by decide +kernel
theorem dX7_isWithin_0 : decode cX7_isWithin 0 = .ok (.iload_n 0, 1) := by decide +kernel
theorem dX7_isWithin_1 : decode cX7_isWithin 1 = .ok (.iload_n 1, 1) := by decide +kernel
theorem dX7_isWithin_2 : decode cX7_isWithin 2 = .ok (.if_icmp .lt 12, 3) := by decide +kernel
theorem dX7_isWithin_5 : decode cX7_isWithin 5 = .ok (.iload_n 0, 1) := by decide +kernel
theorem dX7_isWithin_6 : decode cX7_isWithin 6 = .ok (.iload_n 2, 1) := by decide +kernel
theorem dX7_isWithin_7 : decode cX7_isWithin 7 = .ok (.if_icmp .gt 7, 3) := by decide +kernel
theorem dX7_isWithin_10 : decode cX7_isWithin 10 = .ok (.iconst 1, 1) := by decide +kernel
theorem dX7_isWithin_11 : decode cX7_isWithin 11 = .ok (.goto 4, 3) := by decide +kernel
theorem dX7_isWithin_14 : decode cX7_isWithin 14 = .ok (.iconst 0, 1) := by decide +kernel
theorem dX7_isWithin_15 : decode cX7_isWithin 15 = .ok (.ireturn, 1) := by decide +kernel
