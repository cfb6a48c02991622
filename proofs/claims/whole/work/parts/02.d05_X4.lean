theorem dX4_init_0 : decode cX4_init 0 = .ok (.aload_n 0, 1) := by decide +kernel
theorem dX4_init_1 : decode cX4_init 1 = .ok (.invokespecial 3, 3) := by decide +kernel
theorem dX4_init_4 : decode cX4_init 4 = .ok (.aload_n 0, 1) := by decide +kernel
theorem dX4_init_5 : decode cX4_init 5 = .ok (.bipush 7, 2) := by decide +kernel
theorem dX4_init_7 : decode cX4_init 7 = .ok (.bipush 13, 2) := by decide +kernel
theorem dX4_init_9 : decode cX4_init 9 = .ok (.multianewarray 9 2, 4) := by decide +kernel
theorem dX4_init_13 : decode cX4_init 13 = .ok (.putfield 11, 3) := by decide +kernel
theorem dX4_init_16 : decode cX4_init 16 = .ok (.aload_n 0, 1) := by decide +kernel
theorem dX4_init_17 : decode cX4_init 17 = .ok (.bipush 6, 2) := by decide +kernel
theorem dX4_init_19 : decode cX4_init 19 = .ok (.bipush 13, 2) := by decide +kernel
theorem dX4_init_21 : decode cX4_init 21 = .ok (.multianewarray 16 2, 4) := by decide +kernel
theorem dX4_init_25 : decode cX4_init 25 = .ok (.putfield 18, 3) := by decide +kernel
theorem dX4_init_28 : decode cX4_init 28 = .ok (.aload_n 0, 1) := by decide +kernel
theorem dX4_init_29 : decode cX4_init 29 = .ok (.bipush 13, 2) := by decide +kernel
theorem dX4_init_31 : decode cX4_init 31 = .ok (.newarray .long, 2) := by decide +kernel
theorem dX4_init_33 : decode cX4_init 33 = .ok (.putfield 21, 3) := by decide +kernel
theorem dX4_init_36 : decode cX4_init 36 = .ok (.return_, 1) := by decide +kernel
theorem dX4_askByPlan_0 : decode cX4_askByPlan 0 = .ok (.iconst 0, 1) := by decide +kernel
theorem dX4_askByPlan_1 : decode cX4_askByPlan 1 = .ok (.istore_n 2, 1) := by decide +kernel
theorem dX4_askByPlan_2 : decode cX4_askByPlan 2 = .ok (.iload_n 2, 1) := by decide +kernel
theorem dX4_askByPlan_3 : decode cX4_askByPlan 3 = .ok (.bipush 6, 2) := by decide +kernel
theorem dX4_askByPlan_5 : decode cX4_askByPlan 5 = .ok (.if_icmp .ge 34, 3) := by decide +kernel
theorem dX4_askByPlan_8 : decode cX4_askByPlan 8 = .ok (.iconst 0, 1) := by decide +kernel
theorem dX4_askByPlan_9 : decode cX4_askByPlan 9 = .ok (.istore_n 3, 1) := by decide +kernel
theorem dX4_askByPlan_10 : decode cX4_askByPlan 10 = .ok (.iload_n 3, 1) := by decide +kernel
theorem dX4_askByPlan_11 : decode cX4_askByPlan 11 = .ok (.bipush 12, 2) := by decide +kernel
theorem dX4_askByPlan_13 : decode cX4_askByPlan 13 = .ok (.if_icmp .gt 20, 3) := by decide +kernel
theorem dX4_askByPlan_16 : decode cX4_askByPlan 16 = .ok (.aload_n 0, 1) := by decide +kernel
theorem dX4_askByPlan_17 : decode cX4_askByPlan 17 = .ok (.getfield 18, 3) := by decide +kernel
theorem dX4_askByPlan_20 : decode cX4_askByPlan 20 = .ok (.iload_n 2, 1) := by decide +kernel
theorem dX4_askByPlan_21 : decode cX4_askByPlan 21 = .ok (.aaload, 1) := by decide +kernel
theorem dX4_askByPlan_22 : decode cX4_askByPlan 22 = .ok (.iload_n 3, 1) := by decide +kernel
theorem dX4_askByPlan_23 : decode cX4_askByPlan 23 = .ok (.aload_n 1, 1) := by decide +kernel
theorem dX4_askByPlan_24 : decode cX4_askByPlan 24 = .ok (.iload_n 2, 1) := by decide +kernel
theorem dX4_askByPlan_25 : decode cX4_askByPlan 25 = .ok (.iaload, 1) := by decide +kernel
theorem dX4_askByPlan_26 : decode cX4_askByPlan 26 = .ok (.iastore, 1) := by decide +kernel
theorem dX4_askByPlan_27 : decode cX4_askByPlan 27 = .ok (.iinc 3 1, 3) := by decide +kernel
theorem dX4_askByPlan_30 : decode cX4_askByPlan 30 = .ok (.goto (-20), 3) := by decide +kernel
theorem dX4_askByPlan_33 : decode cX4_askByPlan 33 = .ok (.iinc 2 1, 3) := by decide +kernel
theorem dX4_askByPlan_36 : decode cX4_askByPlan 36 = .ok (.goto (-34), 3) := by decide +kernel
theorem dX4_askByPlan_39 : decode cX4_askByPlan 39 = .ok (.return_, 1) := by decide +kernel
theorem dX4_askByRule_0 : decode cX4_askByRule 0 = .ok (.iconst 0, 1) := by decide +kernel
theorem dX4_askByRule_1 : decode cX4_askByRule 1 = .ok (.istore_n 3, 1) := by decide +kernel
theorem dX4_askByRule_2 : decode cX4_askByRule 2 = .ok (.iload_n 3, 1) := by decide +kernel
theorem dX4_askByRule_3 : decode cX4_askByRule 3 = .ok (.bipush 6, 2) := by decide +kernel
theorem dX4_askByRule_5 : decode cX4_askByRule 5 = .ok (.if_icmp .ge 42, 3) := by decide +kernel
theorem dX4_askByRule_8 : decode cX4_askByRule 8 = .ok (.iconst 0, 1) := by decide +kernel
theorem dX4_askByRule_9 : decode cX4_askByRule 9 = .ok (.istore 4, 2) := by decide +kernel
theorem dX4_askByRule_11 : decode cX4_askByRule 11 = .ok (.iload 4, 2) := by decide +kernel
theorem dX4_askByRule_13 : decode cX4_askByRule 13 = .ok (.bipush 12, 2) := by decide +kernel
theorem dX4_askByRule_15 : decode cX4_askByRule 15 = .ok (.if_icmp .gt 26, 3) := by decide +kernel
theorem dX4_askByRule_18 : decode cX4_askByRule 18 = .ok (.aload_n 0, 1) := by decide +kernel
theorem dX4_askByRule_19 : decode cX4_askByRule 19 = .ok (.getfield 18, 3) := by decide +kernel
theorem dX4_askByRule_22 : decode cX4_askByRule 22 = .ok (.iload_n 3, 1) := by decide +kernel
theorem dX4_askByRule_23 : decode cX4_askByRule 23 = .ok (.aaload, 1) := by decide +kernel
theorem dX4_askByRule_24 : decode cX4_askByRule 24 = .ok (.iload 4, 2) := by decide +kernel
theorem dX4_askByRule_26 : decode cX4_askByRule 26 = .ok (.aload_n 1, 1) := by decide +kernel
theorem dX4_askByRule_27 : decode cX4_askByRule 27 = .ok (.iload_n 3, 1) := by decide +kernel
theorem dX4_askByRule_28 : decode cX4_askByRule 28 = .ok (.iload 4, 2) := by decide +kernel
theorem dX4_askByRule_30 : decode cX4_askByRule 30 = .ok (.iload_n 2, 1) := by decide +kernel
theorem dX4_askByRule_31 : decode cX4_askByRule 31 = .ok (.invokevirtual 25, 3) := by decide +kernel
theorem dX4_askByRule_34 : decode cX4_askByRule 34 = .ok (.iastore, 1) := by decide +kernel
theorem dX4_askByRule_35 : decode cX4_askByRule 35 = .ok (.iinc 4 1, 3) := by decide +kernel
theorem dX4_askByRule_38 : decode cX4_askByRule 38 = .ok (.goto (-27), 3) := by decide +kernel
theorem dX4_askByRule_41 : decode cX4_askByRule 41 = .ok (.iinc 3 1, 3) := by decide +kernel
theorem dX4_askByRule_44 : decode cX4_askByRule 44 = .ok (.goto (-42), 3) := by decide +kernel
theorem dX4_askByRule_47 : decode cX4_askByRule 47 = .ok (.return_, 1) := by decide +kernel
theorem dX4_fillAsked_0 : decode cX4_fillAsked 0 = .ok (.aload_n 0, 1) := by decide +kernel
theorem dX4_fillAsked_1 : decode cX4_fillAsked 1 = .ok (.aload_n 1, 1) := by decide +kernel
theorem dX4_fillAsked_2 : decode cX4_fillAsked 2 = .ok (.invokevirtual 31, 3) := by decide +kernel
theorem dX4_fillAsked_5 : decode cX4_fillAsked 5 = .ok (.aload_n 1, 1) := by decide +kernel
theorem dX4_fillAsked_6 : decode cX4_fillAsked 6 = .ok (.getfield 35, 3) := by decide +kernel
theorem dX4_fillAsked_9 : decode cX4_fillAsked 9 = .ok (.iconst 1, 1) := by decide +kernel
theorem dX4_fillAsked_10 : decode cX4_fillAsked 10 = .ok (.isub, 1) := by decide +kernel
theorem dX4_fillAsked_11 : decode cX4_fillAsked 11 = .ok (.istore_n 2, 1) := by decide +kernel
theorem dX4_fillAsked_12 : decode cX4_fillAsked 12 = .ok (.iload_n 2, 1) := by decide +kernel
theorem dX4_fillAsked_13 : decode cX4_fillAsked 13 = .ok (.ifCond .lt 38, 3) := by decide +kernel
theorem dX4_fillAsked_16 : decode cX4_fillAsked 16 = .ok (.iconst 0, 1) := by decide +kernel
theorem dX4_fillAsked_17 : decode cX4_fillAsked 17 = .ok (.istore_n 3, 1) := by decide +kernel
theorem dX4_fillAsked_18 : decode cX4_fillAsked 18 = .ok (.iload_n 3, 1) := by decide +kernel
theorem dX4_fillAsked_19 : decode cX4_fillAsked 19 = .ok (.aload_n 1, 1) := by decide +kernel
theorem dX4_fillAsked_20 : decode cX4_fillAsked 20 = .ok (.getfield 41, 3) := by decide +kernel
theorem dX4_fillAsked_23 : decode cX4_fillAsked 23 = .ok (.if_icmp .ge 22, 3) := by decide +kernel
theorem dX4_fillAsked_26 : decode cX4_fillAsked 26 = .ok (.aload_n 0, 1) := by decide +kernel
theorem dX4_fillAsked_27 : decode cX4_fillAsked 27 = .ok (.aload_n 1, 1) := by decide +kernel
theorem dX4_fillAsked_28 : decode cX4_fillAsked 28 = .ok (.iload_n 2, 1) := by decide +kernel
theorem dX4_fillAsked_29 : decode cX4_fillAsked 29 = .ok (.iload_n 3, 1) := by decide +kernel
theorem dX4_fillAsked_30 : decode cX4_fillAsked 30 = .ok (.invokevirtual 44, 3) := by decide +kernel
theorem dX4_fillAsked_33 : decode cX4_fillAsked 33 = .ok (.aload_n 0, 1) := by decide +kernel
theorem dX4_fillAsked_34 : decode cX4_fillAsked 34 = .ok (.iload_n 2, 1) := by decide +kernel
theorem dX4_fillAsked_35 : decode cX4_fillAsked 35 = .ok (.iload_n 3, 1) := by decide +kernel
theorem dX4_fillAsked_36 : decode cX4_fillAsked 36 = .ok (.invokevirtual 48, 3) := by decide +kernel
theorem dX4_fillAsked_39 : decode cX4_fillAsked 39 = .ok (.iinc 3 1, 3) := by decide +kernel
theorem dX4_fillAsked_42 : decode cX4_fillAsked 42 = .ok (.goto (-24), 3) := by decide +kernel
theorem dX4_fillAsked_45 : decode cX4_fillAsked 45 = .ok (.iinc 2 (-1), 3) := by decide +kernel
theorem dX4_fillAsked_48 : decode cX4_fillAsked 48 = .ok (.goto (-36), 3) := by decide +kernel
theorem dX4_fillAsked_51 : decode cX4_fillAsked 51 = .ok (.return_, 1) := by decide +kernel
theorem dX4_fillBest_0 : decode cX4_fillBest 0 = .ok (.aload_n 0, 1) := by decide +kernel
theorem dX4_fillBest_1 : decode cX4_fillBest 1 = .ok (.aload_n 1, 1) := by decide +kernel
theorem dX4_fillBest_2 : decode cX4_fillBest 2 = .ok (.invokevirtual 31, 3) := by decide +kernel
theorem dX4_fillBest_5 : decode cX4_fillBest 5 = .ok (.aload_n 1, 1) := by decide +kernel
theorem dX4_fillBest_6 : decode cX4_fillBest 6 = .ok (.getfield 35, 3) := by decide +kernel
theorem dX4_fillBest_9 : decode cX4_fillBest 9 = .ok (.iconst 1, 1) := by decide +kernel
theorem dX4_fillBest_10 : decode cX4_fillBest 10 = .ok (.isub, 1) := by decide +kernel
theorem dX4_fillBest_11 : decode cX4_fillBest 11 = .ok (.istore_n 2, 1) := by decide +kernel
theorem dX4_fillBest_12 : decode cX4_fillBest 12 = .ok (.iload_n 2, 1) := by decide +kernel
theorem dX4_fillBest_13 : decode cX4_fillBest 13 = .ok (.ifCond .lt 38, 3) := by decide +kernel
theorem dX4_fillBest_16 : decode cX4_fillBest 16 = .ok (.iconst 0, 1) := by decide +kernel
theorem dX4_fillBest_17 : decode cX4_fillBest 17 = .ok (.istore_n 3, 1) := by decide +kernel
theorem dX4_fillBest_18 : decode cX4_fillBest 18 = .ok (.iload_n 3, 1) := by decide +kernel
theorem dX4_fillBest_19 : decode cX4_fillBest 19 = .ok (.aload_n 1, 1) := by decide +kernel
theorem dX4_fillBest_20 : decode cX4_fillBest 20 = .ok (.getfield 41, 3) := by decide +kernel
theorem dX4_fillBest_23 : decode cX4_fillBest 23 = .ok (.if_icmp .ge 22, 3) := by decide +kernel
theorem dX4_fillBest_26 : decode cX4_fillBest 26 = .ok (.aload_n 0, 1) := by decide +kernel
theorem dX4_fillBest_27 : decode cX4_fillBest 27 = .ok (.aload_n 1, 1) := by decide +kernel
theorem dX4_fillBest_28 : decode cX4_fillBest 28 = .ok (.iload_n 2, 1) := by decide +kernel
theorem dX4_fillBest_29 : decode cX4_fillBest 29 = .ok (.iload_n 3, 1) := by decide +kernel
theorem dX4_fillBest_30 : decode cX4_fillBest 30 = .ok (.invokevirtual 44, 3) := by decide +kernel
theorem dX4_fillBest_33 : decode cX4_fillBest 33 = .ok (.aload_n 0, 1) := by decide +kernel
theorem dX4_fillBest_34 : decode cX4_fillBest 34 = .ok (.iload_n 2, 1) := by decide +kernel
theorem dX4_fillBest_35 : decode cX4_fillBest 35 = .ok (.iload_n 3, 1) := by decide +kernel
theorem dX4_fillBest_36 : decode cX4_fillBest 36 = .ok (.invokevirtual 52, 3) := by decide +kernel
theorem dX4_fillBest_39 : decode cX4_fillBest 39 = .ok (.iinc 3 1, 3) := by decide +kernel
theorem dX4_fillBest_42 : decode cX4_fillBest 42 = .ok (.goto (-24), 3) := by decide +kernel
theorem dX4_fillBest_45 : decode cX4_fillBest 45 = .ok (.iinc 2 (-1), 3) := by decide +kernel
theorem dX4_fillBest_48 : decode cX4_fillBest 48 = .ok (.goto (-36), 3) := by decide +kernel
theorem dX4_fillBest_51 : decode cX4_fillBest 51 = .ok (.return_, 1) := by decide +kernel
theorem dX4_fillEnd_0 : decode cX4_fillEnd 0 = .ok (.iconst 0, 1) := by decide +kernel
theorem dX4_fillEnd_1 : decode cX4_fillEnd 1 = .ok (.istore_n 2, 1) := by decide +kernel
theorem dX4_fillEnd_2 : decode cX4_fillEnd 2 = .ok (.iload_n 2, 1) := by decide +kernel
theorem dX4_fillEnd_3 : decode cX4_fillEnd 3 = .ok (.bipush 12, 2) := by decide +kernel
theorem dX4_fillEnd_5 : decode cX4_fillEnd 5 = .ok (.if_icmp .gt 28, 3) := by decide +kernel
theorem dX4_fillEnd_8 : decode cX4_fillEnd 8 = .ok (.aload_n 0, 1) := by decide +kernel
theorem dX4_fillEnd_9 : decode cX4_fillEnd 9 = .ok (.getfield 11, 3) := by decide +kernel
theorem dX4_fillEnd_12 : decode cX4_fillEnd 12 = .ok (.aload_n 1, 1) := by decide +kernel
theorem dX4_fillEnd_13 : decode cX4_fillEnd 13 = .ok (.getfield 35, 3) := by decide +kernel
theorem dX4_fillEnd_16 : decode cX4_fillEnd 16 = .ok (.aaload, 1) := by decide +kernel
theorem dX4_fillEnd_17 : decode cX4_fillEnd 17 = .ok (.iload_n 2, 1) := by decide +kernel
theorem dX4_fillEnd_18 : decode cX4_fillEnd 18 = .ok (.aload_n 1, 1) := by decide +kernel
theorem dX4_fillEnd_19 : decode cX4_fillEnd 19 = .ok (.getfield 55, 3) := by decide +kernel
theorem dX4_fillEnd_22 : decode cX4_fillEnd 22 = .ok (.i2l, 1) := by decide +kernel
theorem dX4_fillEnd_23 : decode cX4_fillEnd 23 = .ok (.iload_n 2, 1) := by decide +kernel
theorem dX4_fillEnd_24 : decode cX4_fillEnd 24 = .ok (.i2l, 1) := by decide +kernel
theorem dX4_fillEnd_25 : decode cX4_fillEnd 25 = .ok (.lmul, 1) := by decide +kernel
theorem dX4_fillEnd_26 : decode cX4_fillEnd 26 = .ok (.lastore, 1) := by decide +kernel
theorem dX4_fillEnd_27 : decode cX4_fillEnd 27 = .ok (.iinc 2 1, 3) := by decide +kernel
theorem dX4_fillEnd_30 : decode cX4_fillEnd 30 = .ok (.goto (-28), 3) := by decide +kernel
theorem dX4_fillEnd_33 : decode cX4_fillEnd 33 = .ok (.return_, 1) := by decide +kernel
theorem dX4_rowFor_0 : decode cX4_rowFor 0 = .ok (.aload_n 0, 1) := by decide +kernel
theorem dX4_rowFor_1 : decode cX4_rowFor 1 = .ok (.getfield 11, 3) := by decide +kernel
theorem dX4_rowFor_4 : decode cX4_rowFor 4 = .ok (.iload_n 2, 1) := by decide +kernel
theorem dX4_rowFor_5 : decode cX4_rowFor 5 = .ok (.iconst 1, 1) := by decide +kernel
theorem dX4_rowFor_6 : decode cX4_rowFor 6 = .ok (.iadd, 1) := by decide +kernel
theorem dX4_rowFor_7 : decode cX4_rowFor 7 = .ok (.aaload, 1) := by decide +kernel
theorem dX4_rowFor_8 : decode cX4_rowFor 8 = .ok (.iconst 0, 1) := by decide +kernel
theorem dX4_rowFor_9 : decode cX4_rowFor 9 = .ok (.aload_n 0, 1) := by decide +kernel
theorem dX4_rowFor_10 : decode cX4_rowFor 10 = .ok (.getfield 21, 3) := by decide +kernel
theorem dX4_rowFor_13 : decode cX4_rowFor 13 = .ok (.iconst 0, 1) := by decide +kernel
theorem dX4_rowFor_14 : decode cX4_rowFor 14 = .ok (.bipush 13, 2) := by decide +kernel
theorem dX4_rowFor_16 : decode cX4_rowFor 16 = .ok (.invokestatic 58, 3) := by decide +kernel
theorem dX4_rowFor_19 : decode cX4_rowFor 19 = .ok (.aload_n 1, 1) := by decide +kernel
theorem dX4_rowFor_20 : decode cX4_rowFor 20 = .ok (.aload_n 1, 1) := by decide +kernel
theorem dX4_rowFor_21 : decode cX4_rowFor 21 = .ok (.getfield 35, 3) := by decide +kernel
theorem dX4_rowFor_24 : decode cX4_rowFor 24 = .ok (.iconst 1, 1) := by decide +kernel
theorem dX4_rowFor_25 : decode cX4_rowFor 25 = .ok (.isub, 1) := by decide +kernel
theorem dX4_rowFor_26 : decode cX4_rowFor 26 = .ok (.iload_n 2, 1) := by decide +kernel
theorem dX4_rowFor_27 : decode cX4_rowFor 27 = .ok (.isub, 1) := by decide +kernel
theorem dX4_rowFor_28 : decode cX4_rowFor 28 = .ok (.invokevirtual 64, 3) := by decide +kernel
theorem dX4_rowFor_31 : decode cX4_rowFor 31 = .ok (.lstore 4, 2) := by decide +kernel
theorem dX4_rowFor_33 : decode cX4_rowFor 33 = .ok (.aload_n 1, 1) := by decide +kernel
theorem dX4_rowFor_34 : decode cX4_rowFor 34 = .ok (.getfield 68, 3) := by decide +kernel
theorem dX4_rowFor_37 : decode cX4_rowFor 37 = .ok (.iconst 1, 1) := by decide +kernel
theorem dX4_rowFor_38 : decode cX4_rowFor 38 = .ok (.isub, 1) := by decide +kernel
theorem dX4_rowFor_39 : decode cX4_rowFor 39 = .ok (.istore 6, 2) := by decide +kernel
theorem dX4_rowFor_41 : decode cX4_rowFor 41 = .ok (.iload 6, 2) := by decide +kernel
theorem dX4_rowFor_43 : decode cX4_rowFor 43 = .ok (.ifCond .lt 39, 3) := by decide +kernel
theorem dX4_rowFor_46 : decode cX4_rowFor 46 = .ok (.aload_n 0, 1) := by decide +kernel
theorem dX4_rowFor_47 : decode cX4_rowFor 47 = .ok (.aload_n 1, 1) := by decide +kernel
theorem dX4_rowFor_48 : decode cX4_rowFor 48 = .ok (.iload 6, 2) := by decide +kernel
theorem dX4_rowFor_50 : decode cX4_rowFor 50 = .ok (.iload_n 2, 1) := by decide +kernel
theorem dX4_rowFor_51 : decode cX4_rowFor 51 = .ok (.iload_n 3, 1) := by decide +kernel
theorem dX4_rowFor_52 : decode cX4_rowFor 52 = .ok (.invokevirtual 71, 3) := by decide +kernel
theorem dX4_rowFor_55 : decode cX4_rowFor 55 = .ok (.aload_n 1, 1) := by decide +kernel
theorem dX4_rowFor_56 : decode cX4_rowFor 56 = .ok (.getfield 74, 3) := by decide +kernel
theorem dX4_rowFor_59 : decode cX4_rowFor 59 = .ok (.iload_n 3, 1) := by decide +kernel
theorem dX4_rowFor_60 : decode cX4_rowFor 60 = .ok (.iaload, 1) := by decide +kernel
theorem dX4_rowFor_61 : decode cX4_rowFor 61 = .ok (.i2l, 1) := by decide +kernel
theorem dX4_rowFor_62 : decode cX4_rowFor 62 = .ok (.lload 4, 2) := by decide +kernel
theorem dX4_rowFor_64 : decode cX4_rowFor 64 = .ok (.lmul, 1) := by decide +kernel
theorem dX4_rowFor_65 : decode cX4_rowFor 65 = .ok (.invokevirtual 78, 3) := by decide +kernel
theorem dX4_rowFor_68 : decode cX4_rowFor 68 = .ok (.lload 4, 2) := by decide +kernel
theorem dX4_rowFor_70 : decode cX4_rowFor 70 = .ok (.ldc2_w 82, 3) := by decide +kernel
theorem dX4_rowFor_73 : decode cX4_rowFor 73 = .ok (.lmul, 1) := by decide +kernel
theorem dX4_rowFor_74 : decode cX4_rowFor 74 = .ok (.lstore 4, 2) := by decide +kernel
theorem dX4_rowFor_76 : decode cX4_rowFor 76 = .ok (.iinc 6 (-1), 3) := by decide +kernel
theorem dX4_rowFor_79 : decode cX4_rowFor 79 = .ok (.goto (-38), 3) := by decide +kernel
theorem dX4_rowFor_82 : decode cX4_rowFor 82 = .ok (.return_, 1) := by decide +kernel
theorem dX4_backByBuyer_0 : decode cX4_backByBuyer 0 = .ok (.bipush 12, 2) := by decide +kernel
theorem dX4_backByBuyer_2 : decode cX4_backByBuyer 2 = .ok (.istore 4, 2) := by decide +kernel
theorem dX4_backByBuyer_4 : decode cX4_backByBuyer 4 = .ok (.iload 4, 2) := by decide +kernel
theorem dX4_backByBuyer_6 : decode cX4_backByBuyer 6 = .ok (.ifCond .le 43, 3) := by decide +kernel
theorem dX4_backByBuyer_9 : decode cX4_backByBuyer 9 = .ok (.aload_n 0, 1) := by decide +kernel
theorem dX4_backByBuyer_10 : decode cX4_backByBuyer 10 = .ok (.getfield 21, 3) := by decide +kernel
theorem dX4_backByBuyer_13 : decode cX4_backByBuyer 13 = .ok (.iload 4, 2) := by decide +kernel
theorem dX4_backByBuyer_15 : decode cX4_backByBuyer 15 = .ok (.iload_n 1, 1) := by decide +kernel
theorem dX4_backByBuyer_16 : decode cX4_backByBuyer 16 = .ok (.i2l, 1) := by decide +kernel
theorem dX4_backByBuyer_17 : decode cX4_backByBuyer 17 = .ok (.lload_n 2, 1) := by decide +kernel
theorem dX4_backByBuyer_18 : decode cX4_backByBuyer 18 = .ok (.aload_n 0, 1) := by decide +kernel
theorem dX4_backByBuyer_19 : decode cX4_backByBuyer 19 = .ok (.getfield 21, 3) := by decide +kernel
theorem dX4_backByBuyer_22 : decode cX4_backByBuyer 22 = .ok (.iload 4, 2) := by decide +kernel
theorem dX4_backByBuyer_24 : decode cX4_backByBuyer 24 = .ok (.iconst 1, 1) := by decide +kernel
theorem dX4_backByBuyer_25 : decode cX4_backByBuyer 25 = .ok (.isub, 1) := by decide +kernel
theorem dX4_backByBuyer_26 : decode cX4_backByBuyer 26 = .ok (.laload, 1) := by decide +kernel
theorem dX4_backByBuyer_27 : decode cX4_backByBuyer 27 = .ok (.ladd, 1) := by decide +kernel
theorem dX4_backByBuyer_28 : decode cX4_backByBuyer 28 = .ok (.lmul, 1) := by decide +kernel
theorem dX4_backByBuyer_29 : decode cX4_backByBuyer 29 = .ok (.iconst 4, 1) := by decide +kernel
theorem dX4_backByBuyer_30 : decode cX4_backByBuyer 30 = .ok (.iload_n 1, 1) := by decide +kernel
theorem dX4_backByBuyer_31 : decode cX4_backByBuyer 31 = .ok (.isub, 1) := by decide +kernel
theorem dX4_backByBuyer_32 : decode cX4_backByBuyer 32 = .ok (.i2l, 1) := by decide +kernel
theorem dX4_backByBuyer_33 : decode cX4_backByBuyer 33 = .ok (.aload_n 0, 1) := by decide +kernel
theorem dX4_backByBuyer_34 : decode cX4_backByBuyer 34 = .ok (.getfield 21, 3) := by decide +kernel
theorem dX4_backByBuyer_37 : decode cX4_backByBuyer 37 = .ok (.iload 4, 2) := by decide +kernel
theorem dX4_backByBuyer_39 : decode cX4_backByBuyer 39 = .ok (.laload, 1) := by decide +kernel
theorem dX4_backByBuyer_40 : decode cX4_backByBuyer 40 = .ok (.lmul, 1) := by decide +kernel
theorem dX4_backByBuyer_41 : decode cX4_backByBuyer 41 = .ok (.ladd, 1) := by decide +kernel
theorem dX4_backByBuyer_42 : decode cX4_backByBuyer 42 = .ok (.lastore, 1) := by decide +kernel
theorem dX4_backByBuyer_43 : decode cX4_backByBuyer 43 = .ok (.iinc 4 (-1), 3) := by decide +kernel
theorem dX4_backByBuyer_46 : decode cX4_backByBuyer 46 = .ok (.goto (-42), 3) := by decide +kernel
theorem dX4_backByBuyer_49 : decode cX4_backByBuyer 49 = .ok (.return_, 1) := by decide +kernel
theorem dX4_takeAsked_0 : decode cX4_takeAsked 0 = .ok (.iconst 0, 1) := by decide +kernel
theorem dX4_takeAsked_1 : decode cX4_takeAsked 1 = .ok (.istore_n 3, 1) := by decide +kernel
theorem dX4_takeAsked_2 : decode cX4_takeAsked 2 = .ok (.iload_n 3, 1) := by decide +kernel
theorem dX4_takeAsked_3 : decode cX4_takeAsked 3 = .ok (.bipush 12, 2) := by decide +kernel
theorem dX4_takeAsked_5 : decode cX4_takeAsked 5 = .ok (.if_icmp .gt 35, 3) := by decide +kernel
theorem dX4_takeAsked_8 : decode cX4_takeAsked 8 = .ok (.aload_n 0, 1) := by decide +kernel
theorem dX4_takeAsked_9 : decode cX4_takeAsked 9 = .ok (.getfield 18, 3) := by decide +kernel
theorem dX4_takeAsked_12 : decode cX4_takeAsked 12 = .ok (.iload_n 1, 1) := by decide +kernel
theorem dX4_takeAsked_13 : decode cX4_takeAsked 13 = .ok (.aaload, 1) := by decide +kernel
theorem dX4_takeAsked_14 : decode cX4_takeAsked 14 = .ok (.iload_n 3, 1) := by decide +kernel
theorem dX4_takeAsked_15 : decode cX4_takeAsked 15 = .ok (.iaload, 1) := by decide +kernel
theorem dX4_takeAsked_16 : decode cX4_takeAsked 16 = .ok (.iload_n 2, 1) := by decide +kernel
theorem dX4_takeAsked_17 : decode cX4_takeAsked 17 = .ok (.if_icmp .ne 17, 3) := by decide +kernel
theorem dX4_takeAsked_20 : decode cX4_takeAsked 20 = .ok (.aload_n 0, 1) := by decide +kernel
theorem dX4_takeAsked_21 : decode cX4_takeAsked 21 = .ok (.getfield 11, 3) := by decide +kernel
theorem dX4_takeAsked_24 : decode cX4_takeAsked 24 = .ok (.iload_n 1, 1) := by decide +kernel
theorem dX4_takeAsked_25 : decode cX4_takeAsked 25 = .ok (.aaload, 1) := by decide +kernel
theorem dX4_takeAsked_26 : decode cX4_takeAsked 26 = .ok (.iload_n 3, 1) := by decide +kernel
theorem dX4_takeAsked_27 : decode cX4_takeAsked 27 = .ok (.aload_n 0, 1) := by decide +kernel
theorem dX4_takeAsked_28 : decode cX4_takeAsked 28 = .ok (.getfield 21, 3) := by decide +kernel
theorem dX4_takeAsked_31 : decode cX4_takeAsked 31 = .ok (.iload_n 3, 1) := by decide +kernel
theorem dX4_takeAsked_32 : decode cX4_takeAsked 32 = .ok (.laload, 1) := by decide +kernel
theorem dX4_takeAsked_33 : decode cX4_takeAsked 33 = .ok (.lastore, 1) := by decide +kernel
theorem dX4_takeAsked_34 : decode cX4_takeAsked 34 = .ok (.iinc 3 1, 3) := by decide +kernel
theorem dX4_takeAsked_37 : decode cX4_takeAsked 37 = .ok (.goto (-35), 3) := by decide +kernel
theorem dX4_takeAsked_40 : decode cX4_takeAsked 40 = .ok (.return_, 1) := by decide +kernel
theorem dX4_takeGreater_0 : decode cX4_takeGreater 0 = .ok (.iconst 0, 1) := by decide +kernel
theorem dX4_takeGreater_1 : decode cX4_takeGreater 1 = .ok (.istore_n 3, 1) := by decide +kernel
theorem dX4_takeGreater_2 : decode cX4_takeGreater 2 = .ok (.iload_n 3, 1) := by decide +kernel
theorem dX4_takeGreater_3 : decode cX4_takeGreater 3 = .ok (.bipush 12, 2) := by decide +kernel
theorem dX4_takeGreater_5 : decode cX4_takeGreater 5 = .ok (.if_icmp .gt 54, 3) := by decide +kernel
theorem dX4_takeGreater_8 : decode cX4_takeGreater 8 = .ok (.iload_n 2, 1) := by decide +kernel
theorem dX4_takeGreater_9 : decode cX4_takeGreater 9 = .ok (.ifCond .eq 21, 3) := by decide +kernel
theorem dX4_takeGreater_12 : decode cX4_takeGreater 12 = .ok (.aload_n 0, 1) := by decide +kernel
theorem dX4_takeGreater_13 : decode cX4_takeGreater 13 = .ok (.getfield 21, 3) := by decide +kernel
theorem dX4_takeGreater_16 : decode cX4_takeGreater 16 = .ok (.iload_n 3, 1) := by decide +kernel
theorem dX4_takeGreater_17 : decode cX4_takeGreater 17 = .ok (.laload, 1) := by decide +kernel
theorem dX4_takeGreater_18 : decode cX4_takeGreater 18 = .ok (.aload_n 0, 1) := by decide +kernel
theorem dX4_takeGreater_19 : decode cX4_takeGreater 19 = .ok (.getfield 11, 3) := by decide +kernel
theorem dX4_takeGreater_22 : decode cX4_takeGreater 22 = .ok (.iload_n 1, 1) := by decide +kernel
theorem dX4_takeGreater_23 : decode cX4_takeGreater 23 = .ok (.aaload, 1) := by decide +kernel
theorem dX4_takeGreater_24 : decode cX4_takeGreater 24 = .ok (.iload_n 3, 1) := by decide +kernel
theorem dX4_takeGreater_25 : decode cX4_takeGreater 25 = .ok (.laload, 1) := by decide +kernel
theorem dX4_takeGreater_26 : decode cX4_takeGreater 26 = .ok (.lcmp, 1) := by decide +kernel
theorem dX4_takeGreater_27 : decode cX4_takeGreater 27 = .ok (.ifCond .le 26, 3) := by decide +kernel
theorem dX4_takeGreater_30 : decode cX4_takeGreater 30 = .ok (.aload_n 0, 1) := by decide +kernel
theorem dX4_takeGreater_31 : decode cX4_takeGreater 31 = .ok (.getfield 11, 3) := by decide +kernel
theorem dX4_takeGreater_34 : decode cX4_takeGreater 34 = .ok (.iload_n 1, 1) := by decide +kernel
theorem dX4_takeGreater_35 : decode cX4_takeGreater 35 = .ok (.aaload, 1) := by decide +kernel
theorem dX4_takeGreater_36 : decode cX4_takeGreater 36 = .ok (.iload_n 3, 1) := by decide +kernel
theorem dX4_takeGreater_37 : decode cX4_takeGreater 37 = .ok (.aload_n 0, 1) := by decide +kernel
theorem dX4_takeGreater_38 : decode cX4_takeGreater 38 = .ok (.getfield 21, 3) := by decide +kernel
theorem dX4_takeGreater_41 : decode cX4_takeGreater 41 = .ok (.iload_n 3, 1) := by decide +kernel
theorem dX4_takeGreater_42 : decode cX4_takeGreater 42 = .ok (.laload, 1) := by decide +kernel
theorem dX4_takeGreater_43 : decode cX4_takeGreater 43 = .ok (.lastore, 1) := by decide +kernel
theorem dX4_takeGreater_44 : decode cX4_takeGreater 44 = .ok (.aload_n 0, 1) := by decide +kernel
theorem dX4_takeGreater_45 : decode cX4_takeGreater 45 = .ok (.getfield 18, 3) := by decide +kernel
theorem dX4_takeGreater_48 : decode cX4_takeGreater 48 = .ok (.iload_n 1, 1) := by decide +kernel
theorem dX4_takeGreater_49 : decode cX4_takeGreater 49 = .ok (.aaload, 1) := by decide +kernel
theorem dX4_takeGreater_50 : decode cX4_takeGreater 50 = .ok (.iload_n 3, 1) := by decide +kernel
theorem dX4_takeGreater_51 : decode cX4_takeGreater 51 = .ok (.iload_n 2, 1) := by decide +kernel
theorem dX4_takeGreater_52 : decode cX4_takeGreater 52 = .ok (.iastore, 1) := by decide +kernel
theorem dX4_takeGreater_53 : decode cX4_takeGreater 53 = .ok (.iinc 3 1, 3) := by decide +kernel
theorem dX4_takeGreater_56 : decode cX4_takeGreater 56 = .ok (.goto (-54), 3) := by decide +kernel
theorem dX4_takeGreater_59 : decode cX4_takeGreater 59 = .ok (.return_, 1) := by decide +kernel
