theorem dX6_init_0 : decode cX6_init 0 = .ok (.aload_n 0, 1) := by decide +kernel
theorem dX6_init_1 : decode cX6_init 1 = .ok (.invokespecial 3, 3) := by decide +kernel
theorem dX6_init_4 : decode cX6_init 4 = .ok (.aload_n 0, 1) := by decide +kernel
theorem dX6_init_5 : decode cX6_init 5 = .ok (.bipush 7, 2) := by decide +kernel
theorem dX6_init_7 : decode cX6_init 7 = .ok (.bipush 13, 2) := by decide +kernel
theorem dX6_init_9 : decode cX6_init 9 = .ok (.multianewarray 9 2, 4) := by decide +kernel
theorem dX6_init_13 : decode cX6_init 13 = .ok (.putfield 11, 3) := by decide +kernel
theorem dX6_init_16 : decode cX6_init 16 = .ok (.aload_n 0, 1) := by decide +kernel
theorem dX6_init_17 : decode cX6_init 17 = .ok (.bipush 7, 2) := by decide +kernel
theorem dX6_init_19 : decode cX6_init 19 = .ok (.newarray .long, 2) := by decide +kernel
theorem dX6_init_21 : decode cX6_init 21 = .ok (.putfield 16, 3) := by decide +kernel
theorem dX6_init_24 : decode cX6_init 24 = .ok (.aload_n 0, 1) := by decide +kernel
theorem dX6_init_25 : decode cX6_init 25 = .ok (.bipush 6, 2) := by decide +kernel
theorem dX6_init_27 : decode cX6_init 27 = .ok (.iconst 3, 1) := by decide +kernel
theorem dX6_init_28 : decode cX6_init 28 = .ok (.multianewarray 20 2, 4) := by decide +kernel
theorem dX6_init_32 : decode cX6_init 32 = .ok (.putfield 22, 3) := by decide +kernel
theorem dX6_init_35 : decode cX6_init 35 = .ok (.return_, 1) := by decide +kernel
theorem dX6_goByPlan_0 : decode cX6_goByPlan 0 = .ok (.iload_n 3, 1) := by decide +kernel
theorem dX6_goByPlan_1 : decode cX6_goByPlan 1 = .ok (.ifCond .ne 8, 3) := by decide +kernel
theorem dX6_goByPlan_4 : decode cX6_goByPlan 4 = .ok (.aload_n 0, 1) := by decide +kernel
theorem dX6_goByPlan_5 : decode cX6_goByPlan 5 = .ok (.aload_n 1, 1) := by decide +kernel
theorem dX6_goByPlan_6 : decode cX6_goByPlan 6 = .ok (.invokevirtual 25, 3) := by decide +kernel
theorem dX6_goByPlan_9 : decode cX6_goByPlan 9 = .ok (.iload_n 3, 1) := by decide +kernel
theorem dX6_goByPlan_10 : decode cX6_goByPlan 10 = .ok (.istore 4, 2) := by decide +kernel
theorem dX6_goByPlan_12 : decode cX6_goByPlan 12 = .ok (.iload 4, 2) := by decide +kernel
theorem dX6_goByPlan_14 : decode cX6_goByPlan 14 = .ok (.aload_n 1, 1) := by decide +kernel
theorem dX6_goByPlan_15 : decode cX6_goByPlan 15 = .ok (.getfield 29, 3) := by decide +kernel
theorem dX6_goByPlan_18 : decode cX6_goByPlan 18 = .ok (.if_icmp .ge 60, 3) := by decide +kernel
theorem dX6_goByPlan_21 : decode cX6_goByPlan 21 = .ok (.aload_n 0, 1) := by decide +kernel
theorem dX6_goByPlan_22 : decode cX6_goByPlan 22 = .ok (.iload 4, 2) := by decide +kernel
theorem dX6_goByPlan_24 : decode cX6_goByPlan 24 = .ok (.invokevirtual 35, 3) := by decide +kernel
theorem dX6_goByPlan_27 : decode cX6_goByPlan 27 = .ok (.iconst 0, 1) := by decide +kernel
theorem dX6_goByPlan_28 : decode cX6_goByPlan 28 = .ok (.istore 5, 2) := by decide +kernel
theorem dX6_goByPlan_30 : decode cX6_goByPlan 30 = .ok (.iload 5, 2) := by decide +kernel
theorem dX6_goByPlan_32 : decode cX6_goByPlan 32 = .ok (.aload_n 1, 1) := by decide +kernel
theorem dX6_goByPlan_33 : decode cX6_goByPlan 33 = .ok (.getfield 39, 3) := by decide +kernel
theorem dX6_goByPlan_36 : decode cX6_goByPlan 36 = .ok (.if_icmp .ge 36, 3) := by decide +kernel
theorem dX6_goByPlan_39 : decode cX6_goByPlan 39 = .ok (.aload_n 0, 1) := by decide +kernel
theorem dX6_goByPlan_40 : decode cX6_goByPlan 40 = .ok (.iload 4, 2) := by decide +kernel
theorem dX6_goByPlan_42 : decode cX6_goByPlan 42 = .ok (.aload_n 1, 1) := by decide +kernel
theorem dX6_goByPlan_43 : decode cX6_goByPlan 43 = .ok (.iload 5, 2) := by decide +kernel
theorem dX6_goByPlan_45 : decode cX6_goByPlan 45 = .ok (.iload 4, 2) := by decide +kernel
theorem dX6_goByPlan_47 : decode cX6_goByPlan 47 = .ok (.aload_n 2, 1) := by decide +kernel
theorem dX6_goByPlan_48 : decode cX6_goByPlan 48 = .ok (.iload 4, 2) := by decide +kernel
theorem dX6_goByPlan_50 : decode cX6_goByPlan 50 = .ok (.iaload, 1) := by decide +kernel
theorem dX6_goByPlan_51 : decode cX6_goByPlan 51 = .ok (.invokevirtual 42, 3) := by decide +kernel
theorem dX6_goByPlan_54 : decode cX6_goByPlan 54 = .ok (.aload_n 1, 1) := by decide +kernel
theorem dX6_goByPlan_55 : decode cX6_goByPlan 55 = .ok (.getfield 46, 3) := by decide +kernel
theorem dX6_goByPlan_58 : decode cX6_goByPlan 58 = .ok (.aload_n 2, 1) := by decide +kernel
theorem dX6_goByPlan_59 : decode cX6_goByPlan 59 = .ok (.iload 4, 2) := by decide +kernel
theorem dX6_goByPlan_61 : decode cX6_goByPlan 61 = .ok (.iaload, 1) := by decide +kernel
theorem dX6_goByPlan_62 : decode cX6_goByPlan 62 = .ok (.iaload, 1) := by decide +kernel
theorem dX6_goByPlan_63 : decode cX6_goByPlan 63 = .ok (.invokevirtual 50, 3) := by decide +kernel
theorem dX6_goByPlan_66 : decode cX6_goByPlan 66 = .ok (.iinc 5 1, 3) := by decide +kernel
theorem dX6_goByPlan_69 : decode cX6_goByPlan 69 = .ok (.goto (-39), 3) := by decide +kernel
theorem dX6_goByPlan_72 : decode cX6_goByPlan 72 = .ok (.iinc 4 1, 3) := by decide +kernel
theorem dX6_goByPlan_75 : decode cX6_goByPlan 75 = .ok (.goto (-63), 3) := by decide +kernel
theorem dX6_goByPlan_78 : decode cX6_goByPlan 78 = .ok (.return_, 1) := by decide +kernel
theorem dX6_goWaiting_0 : decode cX6_goWaiting 0 = .ok (.aload_n 0, 1) := by decide +kernel
theorem dX6_goWaiting_1 : decode cX6_goWaiting 1 = .ok (.aload_n 1, 1) := by decide +kernel
theorem dX6_goWaiting_2 : decode cX6_goWaiting 2 = .ok (.invokevirtual 25, 3) := by decide +kernel
theorem dX6_goWaiting_5 : decode cX6_goWaiting 5 = .ok (.aload_n 0, 1) := by decide +kernel
theorem dX6_goWaiting_6 : decode cX6_goWaiting 6 = .ok (.aload_n 1, 1) := by decide +kernel
theorem dX6_goWaiting_7 : decode cX6_goWaiting 7 = .ok (.aload_n 2, 1) := by decide +kernel
theorem dX6_goWaiting_8 : decode cX6_goWaiting 8 = .ok (.invokevirtual 54, 3) := by decide +kernel
theorem dX6_goWaiting_11 : decode cX6_goWaiting 11 = .ok (.iconst 0, 1) := by decide +kernel
theorem dX6_goWaiting_12 : decode cX6_goWaiting 12 = .ok (.istore_n 3, 1) := by decide +kernel
theorem dX6_goWaiting_13 : decode cX6_goWaiting 13 = .ok (.iload_n 3, 1) := by decide +kernel
theorem dX6_goWaiting_14 : decode cX6_goWaiting 14 = .ok (.aload_n 1, 1) := by decide +kernel
theorem dX6_goWaiting_15 : decode cX6_goWaiting 15 = .ok (.getfield 29, 3) := by decide +kernel
theorem dX6_goWaiting_18 : decode cX6_goWaiting 18 = .ok (.if_icmp .ge 40, 3) := by decide +kernel
theorem dX6_goWaiting_21 : decode cX6_goWaiting 21 = .ok (.aload_n 0, 1) := by decide +kernel
theorem dX6_goWaiting_22 : decode cX6_goWaiting 22 = .ok (.iload_n 3, 1) := by decide +kernel
theorem dX6_goWaiting_23 : decode cX6_goWaiting 23 = .ok (.invokevirtual 35, 3) := by decide +kernel
theorem dX6_goWaiting_26 : decode cX6_goWaiting 26 = .ok (.iconst 0, 1) := by decide +kernel
theorem dX6_goWaiting_27 : decode cX6_goWaiting 27 = .ok (.istore 4, 2) := by decide +kernel
theorem dX6_goWaiting_29 : decode cX6_goWaiting 29 = .ok (.iload 4, 2) := by decide +kernel
theorem dX6_goWaiting_31 : decode cX6_goWaiting 31 = .ok (.iload_n 3, 1) := by decide +kernel
theorem dX6_goWaiting_32 : decode cX6_goWaiting 32 = .ok (.if_icmp .gt 20, 3) := by decide +kernel
theorem dX6_goWaiting_35 : decode cX6_goWaiting 35 = .ok (.aload_n 0, 1) := by decide +kernel
theorem dX6_goWaiting_36 : decode cX6_goWaiting 36 = .ok (.iload 4, 2) := by decide +kernel
theorem dX6_goWaiting_38 : decode cX6_goWaiting 38 = .ok (.aload_n 1, 1) := by decide +kernel
theorem dX6_goWaiting_39 : decode cX6_goWaiting 39 = .ok (.iload_n 3, 1) := by decide +kernel
theorem dX6_goWaiting_40 : decode cX6_goWaiting 40 = .ok (.aload_n 2, 1) := by decide +kernel
theorem dX6_goWaiting_41 : decode cX6_goWaiting 41 = .ok (.iload_n 3, 1) := by decide +kernel
theorem dX6_goWaiting_42 : decode cX6_goWaiting 42 = .ok (.iaload, 1) := by decide +kernel
theorem dX6_goWaiting_43 : decode cX6_goWaiting 43 = .ok (.invokevirtual 58, 3) := by decide +kernel
theorem dX6_goWaiting_46 : decode cX6_goWaiting 46 = .ok (.iinc 4 1, 3) := by decide +kernel
theorem dX6_goWaiting_49 : decode cX6_goWaiting 49 = .ok (.goto (-20), 3) := by decide +kernel
theorem dX6_goWaiting_52 : decode cX6_goWaiting 52 = .ok (.iinc 3 1, 3) := by decide +kernel
theorem dX6_goWaiting_55 : decode cX6_goWaiting 55 = .ok (.goto (-42), 3) := by decide +kernel
theorem dX6_goWaiting_58 : decode cX6_goWaiting 58 = .ok (.return_, 1) := by decide +kernel
theorem dX6_mean_0 : decode cX6_mean 0 = .ok (.aload_n 0, 1) := by decide +kernel
theorem dX6_mean_1 : decode cX6_mean 1 = .ok (.getfield 16, 3) := by decide +kernel
theorem dX6_mean_4 : decode cX6_mean 4 = .ok (.aload_n 1, 1) := by decide +kernel
theorem dX6_mean_5 : decode cX6_mean 5 = .ok (.getfield 29, 3) := by decide +kernel
theorem dX6_mean_8 : decode cX6_mean 8 = .ok (.laload, 1) := by decide +kernel
theorem dX6_mean_9 : decode cX6_mean 9 = .ok (.lstore_n 2, 1) := by decide +kernel
theorem dX6_mean_10 : decode cX6_mean 10 = .ok (.iconst 1, 1) := by decide +kernel
theorem dX6_mean_11 : decode cX6_mean 11 = .ok (.istore 4, 2) := by decide +kernel
theorem dX6_mean_13 : decode cX6_mean 13 = .ok (.iload 4, 2) := by decide +kernel
theorem dX6_mean_15 : decode cX6_mean 15 = .ok (.aload_n 1, 1) := by decide +kernel
theorem dX6_mean_16 : decode cX6_mean 16 = .ok (.getfield 62, 3) := by decide +kernel
theorem dX6_mean_19 : decode cX6_mean 19 = .ok (.if_icmp .gt 34, 3) := by decide +kernel
theorem dX6_mean_22 : decode cX6_mean 22 = .ok (.lload_n 2, 1) := by decide +kernel
theorem dX6_mean_23 : decode cX6_mean 23 = .ok (.aload_n 0, 1) := by decide +kernel
theorem dX6_mean_24 : decode cX6_mean 24 = .ok (.getfield 11, 3) := by decide +kernel
theorem dX6_mean_27 : decode cX6_mean 27 = .ok (.aload_n 1, 1) := by decide +kernel
theorem dX6_mean_28 : decode cX6_mean 28 = .ok (.getfield 29, 3) := by decide +kernel
theorem dX6_mean_31 : decode cX6_mean 31 = .ok (.aaload, 1) := by decide +kernel
theorem dX6_mean_32 : decode cX6_mean 32 = .ok (.iload 4, 2) := by decide +kernel
theorem dX6_mean_34 : decode cX6_mean 34 = .ok (.laload, 1) := by decide +kernel
theorem dX6_mean_35 : decode cX6_mean 35 = .ok (.iload 4, 2) := by decide +kernel
theorem dX6_mean_37 : decode cX6_mean 37 = .ok (.i2l, 1) := by decide +kernel
theorem dX6_mean_38 : decode cX6_mean 38 = .ok (.lmul, 1) := by decide +kernel
theorem dX6_mean_39 : decode cX6_mean 39 = .ok (.aload_n 1, 1) := by decide +kernel
theorem dX6_mean_40 : decode cX6_mean 40 = .ok (.getfield 65, 3) := by decide +kernel
theorem dX6_mean_43 : decode cX6_mean 43 = .ok (.i2l, 1) := by decide +kernel
theorem dX6_mean_44 : decode cX6_mean 44 = .ok (.lmul, 1) := by decide +kernel
theorem dX6_mean_45 : decode cX6_mean 45 = .ok (.ladd, 1) := by decide +kernel
theorem dX6_mean_46 : decode cX6_mean 46 = .ok (.lstore_n 2, 1) := by decide +kernel
theorem dX6_mean_47 : decode cX6_mean 47 = .ok (.iinc 4 1, 3) := by decide +kernel
theorem dX6_mean_50 : decode cX6_mean 50 = .ok (.goto (-37), 3) := by decide +kernel
theorem dX6_mean_53 : decode cX6_mean 53 = .ok (.lload_n 2, 1) := by decide +kernel
theorem dX6_mean_54 : decode cX6_mean 54 = .ok (.lreturn, 1) := by decide +kernel
theorem dX6_begin_0 : decode cX6_begin 0 = .ok (.iconst 0, 1) := by decide +kernel
theorem dX6_begin_1 : decode cX6_begin 1 = .ok (.istore_n 2, 1) := by decide +kernel
theorem dX6_begin_2 : decode cX6_begin 2 = .ok (.iload_n 2, 1) := by decide +kernel
theorem dX6_begin_3 : decode cX6_begin 3 = .ok (.bipush 12, 2) := by decide +kernel
theorem dX6_begin_5 : decode cX6_begin 5 = .ok (.if_icmp .gt 30, 3) := by decide +kernel
theorem dX6_begin_8 : decode cX6_begin 8 = .ok (.aload_n 0, 1) := by decide +kernel
theorem dX6_begin_9 : decode cX6_begin 9 = .ok (.getfield 11, 3) := by decide +kernel
theorem dX6_begin_12 : decode cX6_begin 12 = .ok (.iconst 0, 1) := by decide +kernel
theorem dX6_begin_13 : decode cX6_begin 13 = .ok (.aaload, 1) := by decide +kernel
theorem dX6_begin_14 : decode cX6_begin 14 = .ok (.iload_n 2, 1) := by decide +kernel
theorem dX6_begin_15 : decode cX6_begin 15 = .ok (.iload_n 2, 1) := by decide +kernel
theorem dX6_begin_16 : decode cX6_begin 16 = .ok (.aload_n 1, 1) := by decide +kernel
theorem dX6_begin_17 : decode cX6_begin 17 = .ok (.getfield 62, 3) := by decide +kernel
theorem dX6_begin_20 : decode cX6_begin 20 = .ok (.if_icmp .ne 7, 3) := by decide +kernel
theorem dX6_begin_23 : decode cX6_begin 23 = .ok (.lconst 1, 1) := by decide +kernel
theorem dX6_begin_24 : decode cX6_begin 24 = .ok (.goto 4, 3) := by decide +kernel
theorem dX6_begin_27 : decode cX6_begin 27 = .ok (.lconst 0, 1) := by decide +kernel
theorem dX6_begin_28 : decode cX6_begin 28 = .ok (.lastore, 1) := by decide +kernel
theorem dX6_begin_29 : decode cX6_begin 29 = .ok (.iinc 2 1, 3) := by decide +kernel
theorem dX6_begin_32 : decode cX6_begin 32 = .ok (.goto (-30), 3) := by decide +kernel
theorem dX6_begin_35 : decode cX6_begin 35 = .ok (.aload_n 0, 1) := by decide +kernel
theorem dX6_begin_36 : decode cX6_begin 36 = .ok (.getfield 16, 3) := by decide +kernel
theorem dX6_begin_39 : decode cX6_begin 39 = .ok (.iconst 0, 1) := by decide +kernel
theorem dX6_begin_40 : decode cX6_begin 40 = .ok (.lconst 0, 1) := by decide +kernel
theorem dX6_begin_41 : decode cX6_begin 41 = .ok (.lastore, 1) := by decide +kernel
theorem dX6_begin_42 : decode cX6_begin 42 = .ok (.return_, 1) := by decide +kernel
theorem dX6_openDay_0 : decode cX6_openDay 0 = .ok (.aload_n 0, 1) := by decide +kernel
theorem dX6_openDay_1 : decode cX6_openDay 1 = .ok (.getfield 11, 3) := by decide +kernel
theorem dX6_openDay_4 : decode cX6_openDay 4 = .ok (.iload_n 1, 1) := by decide +kernel
theorem dX6_openDay_5 : decode cX6_openDay 5 = .ok (.aaload, 1) := by decide +kernel
theorem dX6_openDay_6 : decode cX6_openDay 6 = .ok (.iconst 0, 1) := by decide +kernel
theorem dX6_openDay_7 : decode cX6_openDay 7 = .ok (.aload_n 0, 1) := by decide +kernel
theorem dX6_openDay_8 : decode cX6_openDay 8 = .ok (.getfield 11, 3) := by decide +kernel
theorem dX6_openDay_11 : decode cX6_openDay 11 = .ok (.iload_n 1, 1) := by decide +kernel
theorem dX6_openDay_12 : decode cX6_openDay 12 = .ok (.iconst 1, 1) := by decide +kernel
theorem dX6_openDay_13 : decode cX6_openDay 13 = .ok (.iadd, 1) := by decide +kernel
theorem dX6_openDay_14 : decode cX6_openDay 14 = .ok (.aaload, 1) := by decide +kernel
theorem dX6_openDay_15 : decode cX6_openDay 15 = .ok (.iconst 0, 1) := by decide +kernel
theorem dX6_openDay_16 : decode cX6_openDay 16 = .ok (.bipush 13, 2) := by decide +kernel
theorem dX6_openDay_18 : decode cX6_openDay 18 = .ok (.invokestatic 68, 3) := by decide +kernel
theorem dX6_openDay_21 : decode cX6_openDay 21 = .ok (.aload_n 0, 1) := by decide +kernel
theorem dX6_openDay_22 : decode cX6_openDay 22 = .ok (.getfield 16, 3) := by decide +kernel
theorem dX6_openDay_25 : decode cX6_openDay 25 = .ok (.iload_n 1, 1) := by decide +kernel
theorem dX6_openDay_26 : decode cX6_openDay 26 = .ok (.iconst 1, 1) := by decide +kernel
theorem dX6_openDay_27 : decode cX6_openDay 27 = .ok (.iadd, 1) := by decide +kernel
theorem dX6_openDay_28 : decode cX6_openDay 28 = .ok (.aload_n 0, 1) := by decide +kernel
theorem dX6_openDay_29 : decode cX6_openDay 29 = .ok (.getfield 16, 3) := by decide +kernel
theorem dX6_openDay_32 : decode cX6_openDay 32 = .ok (.iload_n 1, 1) := by decide +kernel
theorem dX6_openDay_33 : decode cX6_openDay 33 = .ok (.laload, 1) := by decide +kernel
theorem dX6_openDay_34 : decode cX6_openDay 34 = .ok (.lastore, 1) := by decide +kernel
theorem dX6_openDay_35 : decode cX6_openDay 35 = .ok (.return_, 1) := by decide +kernel
theorem dX6_pickAll_0 : decode cX6_pickAll 0 = .ok (.iconst 0, 1) := by decide +kernel
theorem dX6_pickAll_1 : decode cX6_pickAll 1 = .ok (.istore_n 3, 1) := by decide +kernel
theorem dX6_pickAll_2 : decode cX6_pickAll 2 = .ok (.iload_n 3, 1) := by decide +kernel
theorem dX6_pickAll_3 : decode cX6_pickAll 3 = .ok (.aload_n 1, 1) := by decide +kernel
theorem dX6_pickAll_4 : decode cX6_pickAll 4 = .ok (.getfield 29, 3) := by decide +kernel
theorem dX6_pickAll_7 : decode cX6_pickAll 7 = .ok (.if_icmp .ge 57, 3) := by decide +kernel
theorem dX6_pickAll_10 : decode cX6_pickAll 10 = .ok (.iconst 0, 1) := by decide +kernel
theorem dX6_pickAll_11 : decode cX6_pickAll 11 = .ok (.istore 4, 2) := by decide +kernel
theorem dX6_pickAll_13 : decode cX6_pickAll 13 = .ok (.iload 4, 2) := by decide +kernel
theorem dX6_pickAll_15 : decode cX6_pickAll 15 = .ok (.aload_n 1, 1) := by decide +kernel
theorem dX6_pickAll_16 : decode cX6_pickAll 16 = .ok (.getfield 39, 3) := by decide +kernel
theorem dX6_pickAll_19 : decode cX6_pickAll 19 = .ok (.if_icmp .ge 39, 3) := by decide +kernel
theorem dX6_pickAll_22 : decode cX6_pickAll 22 = .ok (.aload_n 0, 1) := by decide +kernel
theorem dX6_pickAll_23 : decode cX6_pickAll 23 = .ok (.getfield 22, 3) := by decide +kernel
theorem dX6_pickAll_26 : decode cX6_pickAll 26 = .ok (.iload_n 3, 1) := by decide +kernel
theorem dX6_pickAll_27 : decode cX6_pickAll 27 = .ok (.aaload, 1) := by decide +kernel
theorem dX6_pickAll_28 : decode cX6_pickAll 28 = .ok (.iload 4, 2) := by decide +kernel
theorem dX6_pickAll_30 : decode cX6_pickAll 30 = .ok (.aload_n 1, 1) := by decide +kernel
theorem dX6_pickAll_31 : decode cX6_pickAll 31 = .ok (.iload 4, 2) := by decide +kernel
theorem dX6_pickAll_33 : decode cX6_pickAll 33 = .ok (.invokevirtual 74, 3) := by decide +kernel
theorem dX6_pickAll_36 : decode cX6_pickAll 36 = .ok (.ifCond .eq 14, 3) := by decide +kernel
theorem dX6_pickAll_39 : decode cX6_pickAll 39 = .ok (.aload_n 1, 1) := by decide +kernel
theorem dX6_pickAll_40 : decode cX6_pickAll 40 = .ok (.iload 4, 2) := by decide +kernel
theorem dX6_pickAll_42 : decode cX6_pickAll 42 = .ok (.iload_n 3, 1) := by decide +kernel
theorem dX6_pickAll_43 : decode cX6_pickAll 43 = .ok (.aload_n 2, 1) := by decide +kernel
theorem dX6_pickAll_44 : decode cX6_pickAll 44 = .ok (.invokevirtual 78, 3) := by decide +kernel
theorem dX6_pickAll_47 : decode cX6_pickAll 47 = .ok (.goto 4, 3) := by decide +kernel
theorem dX6_pickAll_50 : decode cX6_pickAll 50 = .ok (.iload_n 3, 1) := by decide +kernel
theorem dX6_pickAll_51 : decode cX6_pickAll 51 = .ok (.iastore, 1) := by decide +kernel
theorem dX6_pickAll_52 : decode cX6_pickAll 52 = .ok (.iinc 4 1, 3) := by decide +kernel
theorem dX6_pickAll_55 : decode cX6_pickAll 55 = .ok (.goto (-42), 3) := by decide +kernel
theorem dX6_pickAll_58 : decode cX6_pickAll 58 = .ok (.iinc 3 1, 3) := by decide +kernel
theorem dX6_pickAll_61 : decode cX6_pickAll 61 = .ok (.goto (-59), 3) := by decide +kernel
theorem dX6_pickAll_64 : decode cX6_pickAll 64 = .ok (.return_, 1) := by decide +kernel
theorem dX6_passThoseOf_0 : decode cX6_passThoseOf 0 = .ok (.iconst 0, 1) := by decide +kernel
theorem dX6_passThoseOf_1 : decode cX6_passThoseOf 1 = .ok (.istore 5, 2) := by decide +kernel
theorem dX6_passThoseOf_3 : decode cX6_passThoseOf 3 = .ok (.iload 5, 2) := by decide +kernel
theorem dX6_passThoseOf_5 : decode cX6_passThoseOf 5 = .ok (.aload_n 2, 1) := by decide +kernel
theorem dX6_passThoseOf_6 : decode cX6_passThoseOf 6 = .ok (.getfield 39, 3) := by decide +kernel
theorem dX6_passThoseOf_9 : decode cX6_passThoseOf 9 = .ok (.if_icmp .ge 78, 3) := by decide +kernel
theorem dX6_passThoseOf_12 : decode cX6_passThoseOf 12 = .ok (.aload_n 0, 1) := by decide +kernel
theorem dX6_passThoseOf_13 : decode cX6_passThoseOf 13 = .ok (.getfield 22, 3) := by decide +kernel
theorem dX6_passThoseOf_16 : decode cX6_passThoseOf 16 = .ok (.iload_n 1, 1) := by decide +kernel
theorem dX6_passThoseOf_17 : decode cX6_passThoseOf 17 = .ok (.aaload, 1) := by decide +kernel
theorem dX6_passThoseOf_18 : decode cX6_passThoseOf 18 = .ok (.iload 5, 2) := by decide +kernel
theorem dX6_passThoseOf_20 : decode cX6_passThoseOf 20 = .ok (.iaload, 1) := by decide +kernel
theorem dX6_passThoseOf_21 : decode cX6_passThoseOf 21 = .ok (.iload_n 3, 1) := by decide +kernel
theorem dX6_passThoseOf_22 : decode cX6_passThoseOf 22 = .ok (.if_icmp .ne 27, 3) := by decide +kernel
theorem dX6_passThoseOf_25 : decode cX6_passThoseOf 25 = .ok (.aload_n 0, 1) := by decide +kernel
theorem dX6_passThoseOf_26 : decode cX6_passThoseOf 26 = .ok (.iload_n 3, 1) := by decide +kernel
theorem dX6_passThoseOf_27 : decode cX6_passThoseOf 27 = .ok (.aload_n 2, 1) := by decide +kernel
theorem dX6_passThoseOf_28 : decode cX6_passThoseOf 28 = .ok (.iload 5, 2) := by decide +kernel
theorem dX6_passThoseOf_30 : decode cX6_passThoseOf 30 = .ok (.iload_n 3, 1) := by decide +kernel
theorem dX6_passThoseOf_31 : decode cX6_passThoseOf 31 = .ok (.iload 4, 2) := by decide +kernel
theorem dX6_passThoseOf_33 : decode cX6_passThoseOf 33 = .ok (.invokevirtual 42, 3) := by decide +kernel
theorem dX6_passThoseOf_36 : decode cX6_passThoseOf 36 = .ok (.aload_n 2, 1) := by decide +kernel
theorem dX6_passThoseOf_37 : decode cX6_passThoseOf 37 = .ok (.getfield 46, 3) := by decide +kernel
theorem dX6_passThoseOf_40 : decode cX6_passThoseOf 40 = .ok (.iload 4, 2) := by decide +kernel
theorem dX6_passThoseOf_42 : decode cX6_passThoseOf 42 = .ok (.iaload, 1) := by decide +kernel
theorem dX6_passThoseOf_43 : decode cX6_passThoseOf 43 = .ok (.invokevirtual 50, 3) := by decide +kernel
theorem dX6_passThoseOf_46 : decode cX6_passThoseOf 46 = .ok (.goto 35, 3) := by decide +kernel
theorem dX6_passThoseOf_49 : decode cX6_passThoseOf 49 = .ok (.aload_n 0, 1) := by decide +kernel
theorem dX6_passThoseOf_50 : decode cX6_passThoseOf 50 = .ok (.getfield 22, 3) := by decide +kernel
theorem dX6_passThoseOf_53 : decode cX6_passThoseOf 53 = .ok (.iload_n 1, 1) := by decide +kernel
theorem dX6_passThoseOf_54 : decode cX6_passThoseOf 54 = .ok (.aaload, 1) := by decide +kernel
theorem dX6_passThoseOf_55 : decode cX6_passThoseOf 55 = .ok (.iload 5, 2) := by decide +kernel
theorem dX6_passThoseOf_57 : decode cX6_passThoseOf 57 = .ok (.iaload, 1) := by decide +kernel
theorem dX6_passThoseOf_58 : decode cX6_passThoseOf 58 = .ok (.bipush (-6), 2) := by decide +kernel
theorem dX6_passThoseOf_60 : decode cX6_passThoseOf 60 = .ok (.if_icmp .ne 21, 3) := by decide +kernel
theorem dX6_passThoseOf_63 : decode cX6_passThoseOf 63 = .ok (.iload_n 1, 1) := by decide +kernel
theorem dX6_passThoseOf_64 : decode cX6_passThoseOf 64 = .ok (.iload_n 3, 1) := by decide +kernel
theorem dX6_passThoseOf_65 : decode cX6_passThoseOf 65 = .ok (.if_icmp .ne 16, 3) := by decide +kernel
theorem dX6_passThoseOf_68 : decode cX6_passThoseOf 68 = .ok (.aload_n 0, 1) := by decide +kernel
theorem dX6_passThoseOf_69 : decode cX6_passThoseOf 69 = .ok (.iload_n 3, 1) := by decide +kernel
theorem dX6_passThoseOf_70 : decode cX6_passThoseOf 70 = .ok (.iconst 0, 1) := by decide +kernel
theorem dX6_passThoseOf_71 : decode cX6_passThoseOf 71 = .ok (.aload_n 2, 1) := by decide +kernel
theorem dX6_passThoseOf_72 : decode cX6_passThoseOf 72 = .ok (.getfield 46, 3) := by decide +kernel
theorem dX6_passThoseOf_75 : decode cX6_passThoseOf 75 = .ok (.iload 4, 2) := by decide +kernel
theorem dX6_passThoseOf_77 : decode cX6_passThoseOf 77 = .ok (.iaload, 1) := by decide +kernel
theorem dX6_passThoseOf_78 : decode cX6_passThoseOf 78 = .ok (.invokevirtual 50, 3) := by decide +kernel
theorem dX6_passThoseOf_81 : decode cX6_passThoseOf 81 = .ok (.iinc 5 1, 3) := by decide +kernel
theorem dX6_passThoseOf_84 : decode cX6_passThoseOf 84 = .ok (.goto (-81), 3) := by decide +kernel
theorem dX6_passThoseOf_87 : decode cX6_passThoseOf 87 = .ok (.return_, 1) := by decide +kernel
theorem dX6_passBuyer_0 : decode cX6_passBuyer 0 = .ok (.aload_n 0, 1) := by decide +kernel
theorem dX6_passBuyer_1 : decode cX6_passBuyer 1 = .ok (.getfield 11, 3) := by decide +kernel
theorem dX6_passBuyer_4 : decode cX6_passBuyer 4 = .ok (.iload_n 1, 1) := by decide +kernel
theorem dX6_passBuyer_5 : decode cX6_passBuyer 5 = .ok (.iconst 1, 1) := by decide +kernel
theorem dX6_passBuyer_6 : decode cX6_passBuyer 6 = .ok (.iadd, 1) := by decide +kernel
theorem dX6_passBuyer_7 : decode cX6_passBuyer 7 = .ok (.aaload, 1) := by decide +kernel
theorem dX6_passBuyer_8 : decode cX6_passBuyer 8 = .ok (.astore 4, 2) := by decide +kernel
theorem dX6_passBuyer_10 : decode cX6_passBuyer 10 = .ok (.lconst 0, 1) := by decide +kernel
theorem dX6_passBuyer_11 : decode cX6_passBuyer 11 = .ok (.lstore 5, 2) := by decide +kernel
theorem dX6_passBuyer_13 : decode cX6_passBuyer 13 = .ok (.aload 4, 2) := by decide +kernel
theorem dX6_passBuyer_15 : decode cX6_passBuyer 15 = .ok (.iconst 0, 1) := by decide +kernel
theorem dX6_passBuyer_16 : decode cX6_passBuyer 16 = .ok (.dup2, 1) := by decide +kernel
theorem dX6_passBuyer_17 : decode cX6_passBuyer 17 = .ok (.laload, 1) := by decide +kernel
theorem dX6_passBuyer_18 : decode cX6_passBuyer 18 = .ok (.ldc2_w 82, 3) := by decide +kernel
theorem dX6_passBuyer_21 : decode cX6_passBuyer 21 = .ok (.lmul, 1) := by decide +kernel
theorem dX6_passBuyer_22 : decode cX6_passBuyer 22 = .ok (.lastore, 1) := by decide +kernel
theorem dX6_passBuyer_23 : decode cX6_passBuyer 23 = .ok (.iconst 1, 1) := by decide +kernel
theorem dX6_passBuyer_24 : decode cX6_passBuyer 24 = .ok (.istore 7, 2) := by decide +kernel
theorem dX6_passBuyer_26 : decode cX6_passBuyer 26 = .ok (.iload 7, 2) := by decide +kernel
theorem dX6_passBuyer_28 : decode cX6_passBuyer 28 = .ok (.bipush 12, 2) := by decide +kernel
theorem dX6_passBuyer_30 : decode cX6_passBuyer 30 = .ok (.if_icmp .gt 55, 3) := by decide +kernel
theorem dX6_passBuyer_33 : decode cX6_passBuyer 33 = .ok (.aload 4, 2) := by decide +kernel
theorem dX6_passBuyer_35 : decode cX6_passBuyer 35 = .ok (.iload 7, 2) := by decide +kernel
theorem dX6_passBuyer_37 : decode cX6_passBuyer 37 = .ok (.laload, 1) := by decide +kernel
theorem dX6_passBuyer_38 : decode cX6_passBuyer 38 = .ok (.iload_n 2, 1) := by decide +kernel
theorem dX6_passBuyer_39 : decode cX6_passBuyer 39 = .ok (.i2l, 1) := by decide +kernel
theorem dX6_passBuyer_40 : decode cX6_passBuyer 40 = .ok (.lmul, 1) := by decide +kernel
theorem dX6_passBuyer_41 : decode cX6_passBuyer 41 = .ok (.lstore 8, 2) := by decide +kernel
theorem dX6_passBuyer_43 : decode cX6_passBuyer 43 = .ok (.lload 5, 2) := by decide +kernel
theorem dX6_passBuyer_45 : decode cX6_passBuyer 45 = .ok (.lload 8, 2) := by decide +kernel
theorem dX6_passBuyer_47 : decode cX6_passBuyer 47 = .ok (.ladd, 1) := by decide +kernel
theorem dX6_passBuyer_48 : decode cX6_passBuyer 48 = .ok (.lstore 5, 2) := by decide +kernel
theorem dX6_passBuyer_50 : decode cX6_passBuyer 50 = .ok (.aload 4, 2) := by decide +kernel
theorem dX6_passBuyer_52 : decode cX6_passBuyer 52 = .ok (.iload 7, 2) := by decide +kernel
theorem dX6_passBuyer_54 : decode cX6_passBuyer 54 = .ok (.iconst 1, 1) := by decide +kernel
theorem dX6_passBuyer_55 : decode cX6_passBuyer 55 = .ok (.isub, 1) := by decide +kernel
theorem dX6_passBuyer_56 : decode cX6_passBuyer 56 = .ok (.dup2, 1) := by decide +kernel
theorem dX6_passBuyer_57 : decode cX6_passBuyer 57 = .ok (.laload, 1) := by decide +kernel
theorem dX6_passBuyer_58 : decode cX6_passBuyer 58 = .ok (.lload 8, 2) := by decide +kernel
theorem dX6_passBuyer_60 : decode cX6_passBuyer 60 = .ok (.ladd, 1) := by decide +kernel
theorem dX6_passBuyer_61 : decode cX6_passBuyer 61 = .ok (.lastore, 1) := by decide +kernel
theorem dX6_passBuyer_62 : decode cX6_passBuyer 62 = .ok (.aload 4, 2) := by decide +kernel
theorem dX6_passBuyer_64 : decode cX6_passBuyer 64 = .ok (.iload 7, 2) := by decide +kernel
theorem dX6_passBuyer_66 : decode cX6_passBuyer 66 = .ok (.aload 4, 2) := by decide +kernel
theorem dX6_passBuyer_68 : decode cX6_passBuyer 68 = .ok (.iload 7, 2) := by decide +kernel
theorem dX6_passBuyer_70 : decode cX6_passBuyer 70 = .ok (.laload, 1) := by decide +kernel
theorem dX6_passBuyer_71 : decode cX6_passBuyer 71 = .ok (.ldc2_w 82, 3) := by decide +kernel
theorem dX6_passBuyer_74 : decode cX6_passBuyer 74 = .ok (.lmul, 1) := by decide +kernel
theorem dX6_passBuyer_75 : decode cX6_passBuyer 75 = .ok (.lload 8, 2) := by decide +kernel
theorem dX6_passBuyer_77 : decode cX6_passBuyer 77 = .ok (.lsub, 1) := by decide +kernel
theorem dX6_passBuyer_78 : decode cX6_passBuyer 78 = .ok (.lastore, 1) := by decide +kernel
theorem dX6_passBuyer_79 : decode cX6_passBuyer 79 = .ok (.iinc 7 1, 3) := by decide +kernel
theorem dX6_passBuyer_82 : decode cX6_passBuyer 82 = .ok (.goto (-56), 3) := by decide +kernel
theorem dX6_passBuyer_85 : decode cX6_passBuyer 85 = .ok (.aload_n 0, 1) := by decide +kernel
theorem dX6_passBuyer_86 : decode cX6_passBuyer 86 = .ok (.getfield 16, 3) := by decide +kernel
theorem dX6_passBuyer_89 : decode cX6_passBuyer 89 = .ok (.iload_n 1, 1) := by decide +kernel
theorem dX6_passBuyer_90 : decode cX6_passBuyer 90 = .ok (.iconst 1, 1) := by decide +kernel
theorem dX6_passBuyer_91 : decode cX6_passBuyer 91 = .ok (.iadd, 1) := by decide +kernel
theorem dX6_passBuyer_92 : decode cX6_passBuyer 92 = .ok (.aload_n 0, 1) := by decide +kernel
theorem dX6_passBuyer_93 : decode cX6_passBuyer 93 = .ok (.getfield 16, 3) := by decide +kernel
theorem dX6_passBuyer_96 : decode cX6_passBuyer 96 = .ok (.iload_n 1, 1) := by decide +kernel
theorem dX6_passBuyer_97 : decode cX6_passBuyer 97 = .ok (.iconst 1, 1) := by decide +kernel
theorem dX6_passBuyer_98 : decode cX6_passBuyer 98 = .ok (.iadd, 1) := by decide +kernel
theorem dX6_passBuyer_99 : decode cX6_passBuyer 99 = .ok (.laload, 1) := by decide +kernel
theorem dX6_passBuyer_100 : decode cX6_passBuyer 100 = .ok (.ldc2_w 82, 3) := by decide +kernel
theorem dX6_passBuyer_103 : decode cX6_passBuyer 103 = .ok (.lmul, 1) := by decide +kernel
theorem dX6_passBuyer_104 : decode cX6_passBuyer 104 = .ok (.lload 5, 2) := by decide +kernel
theorem dX6_passBuyer_106 : decode cX6_passBuyer 106 = .ok (.iload_n 3, 1) := by decide +kernel
theorem dX6_passBuyer_107 : decode cX6_passBuyer 107 = .ok (.i2l, 1) := by decide +kernel
theorem dX6_passBuyer_108 : decode cX6_passBuyer 108 = .ok (.lmul, 1) := by decide +kernel
theorem dX6_passBuyer_109 : decode cX6_passBuyer 109 = .ok (.ladd, 1) := by decide +kernel
theorem dX6_passBuyer_110 : decode cX6_passBuyer 110 = .ok (.lastore, 1) := by decide +kernel
theorem dX6_passBuyer_111 : decode cX6_passBuyer 111 = .ok (.return_, 1) := by decide +kernel
