theorem dX1_init_0 : decode cX1_init 0 = .ok (.aload_n 0, 1) := by decide +kernel
theorem dX1_init_1 : decode cX1_init 1 = .ok (.invokespecial 3, 3) := by decide +kernel
theorem dX1_init_4 : decode cX1_init 4 = .ok (.aload_n 0, 1) := by decide +kernel
theorem dX1_init_5 : decode cX1_init 5 = .ok (.bipush 6, 2) := by decide +kernel
theorem dX1_init_7 : decode cX1_init 7 = .ok (.newarray .int, 2) := by decide +kernel
theorem dX1_init_9 : decode cX1_init 9 = .ok (.putfield 9, 3) := by decide +kernel
theorem dX1_init_12 : decode cX1_init 12 = .ok (.aload_n 0, 1) := by decide +kernel
theorem dX1_init_13 : decode cX1_init 13 = .ok (.ldc2_w 15, 3) := by decide +kernel
theorem dX1_init_16 : decode cX1_init 16 = .ok (.putfield 17, 3) := by decide +kernel
theorem dX1_init_19 : decode cX1_init 19 = .ok (.return_, 1) := by decide +kernel
theorem dX1_clear_0 : decode cX1_clear 0 = .ok (.aload_n 0, 1) := by decide +kernel
theorem dX1_clear_1 : decode cX1_clear 1 = .ok (.ldc2_w 15, 3) := by decide +kernel
theorem dX1_clear_4 : decode cX1_clear 4 = .ok (.putfield 17, 3) := by decide +kernel
theorem dX1_clear_7 : decode cX1_clear 7 = .ok (.return_, 1) := by decide +kernel
theorem dX1_offer_0 : decode cX1_offer 0 = .ok (.lload_n 1, 1) := by decide +kernel
theorem dX1_offer_1 : decode cX1_offer 1 = .ok (.aload_n 0, 1) := by decide +kernel
theorem dX1_offer_2 : decode cX1_offer 2 = .ok (.getfield 17, 3) := by decide +kernel
theorem dX1_offer_5 : decode cX1_offer 5 = .ok (.lcmp, 1) := by decide +kernel
theorem dX1_offer_6 : decode cX1_offer 6 = .ok (.ifCond .le 20, 3) := by decide +kernel
theorem dX1_offer_9 : decode cX1_offer 9 = .ok (.aload_n 0, 1) := by decide +kernel
theorem dX1_offer_10 : decode cX1_offer 10 = .ok (.lload_n 1, 1) := by decide +kernel
theorem dX1_offer_11 : decode cX1_offer 11 = .ok (.putfield 17, 3) := by decide +kernel
theorem dX1_offer_14 : decode cX1_offer 14 = .ok (.aload_n 3, 1) := by decide +kernel
theorem dX1_offer_15 : decode cX1_offer 15 = .ok (.iconst 0, 1) := by decide +kernel
theorem dX1_offer_16 : decode cX1_offer 16 = .ok (.aload_n 0, 1) := by decide +kernel
theorem dX1_offer_17 : decode cX1_offer 17 = .ok (.getfield 9, 3) := by decide +kernel
theorem dX1_offer_20 : decode cX1_offer 20 = .ok (.iconst 0, 1) := by decide +kernel
theorem dX1_offer_21 : decode cX1_offer 21 = .ok (.bipush 6, 2) := by decide +kernel
theorem dX1_offer_23 : decode cX1_offer 23 = .ok (.invokestatic 21, 3) := by decide +kernel
theorem dX1_offer_26 : decode cX1_offer 26 = .ok (.return_, 1) := by decide +kernel
