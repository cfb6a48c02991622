theorem dX0_init_0 : decode cX0_init 0 = .ok (.aload_n 0, 1) := by decide +kernel
theorem dX0_init_1 : decode cX0_init 1 = .ok (.invokespecial 3, 3) := by decide +kernel
theorem dX0_init_4 : decode cX0_init 4 = .ok (.aload_n 0, 1) := by decide +kernel
theorem dX0_init_5 : decode cX0_init 5 = .ok (.bipush 6, 2) := by decide +kernel
theorem dX0_init_7 : decode cX0_init 7 = .ok (.newarray .int, 2) := by decide +kernel
theorem dX0_init_9 : decode cX0_init 9 = .ok (.putfield 9, 3) := by decide +kernel
theorem dX0_init_12 : decode cX0_init 12 = .ok (.return_, 1) := by decide +kernel
theorem dX0_begin_0 : decode cX0_begin 0 = .ok (.iconst 0, 1) := by decide +kernel
theorem dX0_begin_1 : decode cX0_begin 1 = .ok (.istore_n 1, 1) := by decide +kernel
theorem dX0_begin_2 : decode cX0_begin 2 = .ok (.iload_n 1, 1) := by decide +kernel
theorem dX0_begin_3 : decode cX0_begin 3 = .ok (.bipush 6, 2) := by decide +kernel
theorem dX0_begin_5 : decode cX0_begin 5 = .ok (.if_icmp .ge 16, 3) := by decide +kernel
theorem dX0_begin_8 : decode cX0_begin 8 = .ok (.aload_n 0, 1) := by decide +kernel
theorem dX0_begin_9 : decode cX0_begin 9 = .ok (.getfield 9, 3) := by decide +kernel
theorem dX0_begin_12 : decode cX0_begin 12 = .ok (.iload_n 1, 1) := by decide +kernel
theorem dX0_begin_13 : decode cX0_begin 13 = .ok (.iconst 0, 1) := by decide +kernel
theorem dX0_begin_14 : decode cX0_begin 14 = .ok (.iastore, 1) := by decide +kernel
theorem dX0_begin_15 : decode cX0_begin 15 = .ok (.iinc 1 1, 3) := by decide +kernel
theorem dX0_begin_18 : decode cX0_begin 18 = .ok (.goto (-16), 3) := by decide +kernel
theorem dX0_begin_21 : decode cX0_begin 21 = .ok (.iconst 0, 1) := by decide +kernel
theorem dX0_begin_22 : decode cX0_begin 22 = .ok (.ireturn, 1) := by decide +kernel
theorem dX0_advance_0 : decode cX0_advance 0 = .ok (.iload_n 1, 1) := by decide +kernel
theorem dX0_advance_1 : decode cX0_advance 1 = .ok (.iconst 1, 1) := by decide +kernel
theorem dX0_advance_2 : decode cX0_advance 2 = .ok (.isub, 1) := by decide +kernel
theorem dX0_advance_3 : decode cX0_advance 3 = .ok (.istore_n 3, 1) := by decide +kernel
theorem dX0_advance_4 : decode cX0_advance 4 = .ok (.iload_n 3, 1) := by decide +kernel
theorem dX0_advance_5 : decode cX0_advance 5 = .ok (.ifCond .lt 57, 3) := by decide +kernel
theorem dX0_advance_8 : decode cX0_advance 8 = .ok (.aload_n 0, 1) := by decide +kernel
theorem dX0_advance_9 : decode cX0_advance 9 = .ok (.getfield 9, 3) := by decide +kernel
theorem dX0_advance_12 : decode cX0_advance 12 = .ok (.iload_n 3, 1) := by decide +kernel
theorem dX0_advance_13 : decode cX0_advance 13 = .ok (.iaload, 1) := by decide +kernel
theorem dX0_advance_14 : decode cX0_advance 14 = .ok (.iload_n 2, 1) := by decide +kernel
theorem dX0_advance_15 : decode cX0_advance 15 = .ok (.iconst 1, 1) := by decide +kernel
theorem dX0_advance_16 : decode cX0_advance 16 = .ok (.isub, 1) := by decide +kernel
theorem dX0_advance_17 : decode cX0_advance 17 = .ok (.if_icmp .ge 39, 3) := by decide +kernel
theorem dX0_advance_20 : decode cX0_advance 20 = .ok (.aload_n 0, 1) := by decide +kernel
theorem dX0_advance_21 : decode cX0_advance 21 = .ok (.getfield 9, 3) := by decide +kernel
theorem dX0_advance_24 : decode cX0_advance 24 = .ok (.iload_n 3, 1) := by decide +kernel
theorem dX0_advance_25 : decode cX0_advance 25 = .ok (.iaload, 1) := by decide +kernel
theorem dX0_advance_26 : decode cX0_advance 26 = .ok (.iconst 1, 1) := by decide +kernel
theorem dX0_advance_27 : decode cX0_advance 27 = .ok (.iadd, 1) := by decide +kernel
theorem dX0_advance_28 : decode cX0_advance 28 = .ok (.istore 4, 2) := by decide +kernel
theorem dX0_advance_30 : decode cX0_advance 30 = .ok (.iload_n 3, 1) := by decide +kernel
theorem dX0_advance_31 : decode cX0_advance 31 = .ok (.istore 5, 2) := by decide +kernel
theorem dX0_advance_33 : decode cX0_advance 33 = .ok (.iload 5, 2) := by decide +kernel
theorem dX0_advance_35 : decode cX0_advance 35 = .ok (.iload_n 1, 1) := by decide +kernel
theorem dX0_advance_36 : decode cX0_advance 36 = .ok (.if_icmp .ge 18, 3) := by decide +kernel
theorem dX0_advance_39 : decode cX0_advance 39 = .ok (.aload_n 0, 1) := by decide +kernel
theorem dX0_advance_40 : decode cX0_advance 40 = .ok (.getfield 9, 3) := by decide +kernel
theorem dX0_advance_43 : decode cX0_advance 43 = .ok (.iload 5, 2) := by decide +kernel
theorem dX0_advance_45 : decode cX0_advance 45 = .ok (.iload 4, 2) := by decide +kernel
theorem dX0_advance_47 : decode cX0_advance 47 = .ok (.iastore, 1) := by decide +kernel
theorem dX0_advance_48 : decode cX0_advance 48 = .ok (.iinc 5 1, 3) := by decide +kernel
theorem dX0_advance_51 : decode cX0_advance 51 = .ok (.goto (-18), 3) := by decide +kernel
theorem dX0_advance_54 : decode cX0_advance 54 = .ok (.iload_n 3, 1) := by decide +kernel
theorem dX0_advance_55 : decode cX0_advance 55 = .ok (.ireturn, 1) := by decide +kernel
theorem dX0_advance_56 : decode cX0_advance 56 = .ok (.iinc 3 (-1), 3) := by decide +kernel
theorem dX0_advance_59 : decode cX0_advance 59 = .ok (.goto (-55), 3) := by decide +kernel
theorem dX0_advance_62 : decode cX0_advance 62 = .ok (.bipush (-6), 2) := by decide +kernel
theorem dX0_advance_64 : decode cX0_advance 64 = .ok (.ireturn, 1) := by decide +kernel
theorem dX0_marksDown_0 : decode cX0_marksDown 0 = .ok (.iconst 0, 1) := by decide +kernel
theorem dX0_marksDown_1 : decode cX0_marksDown 1 = .ok (.istore_n 2, 1) := by decide +kernel
theorem dX0_marksDown_2 : decode cX0_marksDown 2 = .ok (.iconst 1, 1) := by decide +kernel
theorem dX0_marksDown_3 : decode cX0_marksDown 3 = .ok (.istore_n 3, 1) := by decide +kernel
theorem dX0_marksDown_4 : decode cX0_marksDown 4 = .ok (.iload_n 3, 1) := by decide +kernel
theorem dX0_marksDown_5 : decode cX0_marksDown 5 = .ok (.iload_n 1, 1) := by decide +kernel
theorem dX0_marksDown_6 : decode cX0_marksDown 6 = .ok (.if_icmp .ge 29, 3) := by decide +kernel
theorem dX0_marksDown_9 : decode cX0_marksDown 9 = .ok (.aload_n 0, 1) := by decide +kernel
theorem dX0_marksDown_10 : decode cX0_marksDown 10 = .ok (.getfield 9, 3) := by decide +kernel
theorem dX0_marksDown_13 : decode cX0_marksDown 13 = .ok (.iload_n 3, 1) := by decide +kernel
theorem dX0_marksDown_14 : decode cX0_marksDown 14 = .ok (.iaload, 1) := by decide +kernel
theorem dX0_marksDown_15 : decode cX0_marksDown 15 = .ok (.aload_n 0, 1) := by decide +kernel
theorem dX0_marksDown_16 : decode cX0_marksDown 16 = .ok (.getfield 9, 3) := by decide +kernel
theorem dX0_marksDown_19 : decode cX0_marksDown 19 = .ok (.iload_n 3, 1) := by decide +kernel
theorem dX0_marksDown_20 : decode cX0_marksDown 20 = .ok (.iconst 1, 1) := by decide +kernel
theorem dX0_marksDown_21 : decode cX0_marksDown 21 = .ok (.isub, 1) := by decide +kernel
theorem dX0_marksDown_22 : decode cX0_marksDown 22 = .ok (.iaload, 1) := by decide +kernel
theorem dX0_marksDown_23 : decode cX0_marksDown 23 = .ok (.if_icmp .eq 6, 3) := by decide +kernel
theorem dX0_marksDown_26 : decode cX0_marksDown 26 = .ok (.iinc 2 1, 3) := by decide +kernel
theorem dX0_marksDown_29 : decode cX0_marksDown 29 = .ok (.iinc 3 1, 3) := by decide +kernel
theorem dX0_marksDown_32 : decode cX0_marksDown 32 = .ok (.goto (-28), 3) := by decide +kernel
theorem dX0_marksDown_35 : decode cX0_marksDown 35 = .ok (.iload_n 2, 1) := by decide +kernel
theorem dX0_marksDown_36 : decode cX0_marksDown 36 = .ok (.ireturn, 1) := by decide +kernel
