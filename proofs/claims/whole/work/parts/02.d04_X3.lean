theorem dX3_init_0 : decode cX3_init 0 = .ok (.aload_n 0, 1) := by decide +kernel
theorem dX3_init_1 : decode cX3_init 1 = .ok (.invokespecial 3, 3) := by decide +kernel
theorem dX3_init_4 : decode cX3_init 4 = .ok (.aload_n 0, 1) := by decide +kernel
theorem dX3_init_5 : decode cX3_init 5 = .ok (.iconst 4, 1) := by decide +kernel
theorem dX3_init_6 : decode cX3_init 6 = .ok (.putfield 9, 3) := by decide +kernel
theorem dX3_init_9 : decode cX3_init 9 = .ok (.aload_n 0, 1) := by decide +kernel
theorem dX3_init_10 : decode cX3_init 10 = .ok (.iconst 3, 1) := by decide +kernel
theorem dX3_init_11 : decode cX3_init 11 = .ok (.putfield 15, 3) := by decide +kernel
theorem dX3_init_14 : decode cX3_init 14 = .ok (.aload_n 0, 1) := by decide +kernel
theorem dX3_init_15 : decode cX3_init 15 = .ok (.iconst 0, 1) := by decide +kernel
theorem dX3_init_16 : decode cX3_init 16 = .ok (.putfield 18, 3) := by decide +kernel
theorem dX3_init_19 : decode cX3_init 19 = .ok (.aload_n 0, 1) := by decide +kernel
theorem dX3_init_20 : decode cX3_init 20 = .ok (.iconst 5, 1) := by decide +kernel
theorem dX3_init_21 : decode cX3_init 21 = .ok (.newarray .int, 2) := by decide +kernel
theorem dX3_init_23 : decode cX3_init 23 = .ok (.putfield 21, 3) := by decide +kernel
theorem dX3_init_26 : decode cX3_init 26 = .ok (.aload_n 0, 1) := by decide +kernel
theorem dX3_init_27 : decode cX3_init 27 = .ok (.iconst 0, 1) := by decide +kernel
theorem dX3_init_28 : decode cX3_init 28 = .ok (.putfield 25, 3) := by decide +kernel
theorem dX3_init_31 : decode cX3_init 31 = .ok (.aload_n 0, 1) := by decide +kernel
theorem dX3_init_32 : decode cX3_init 32 = .ok (.iconst 3, 1) := by decide +kernel
theorem dX3_init_33 : decode cX3_init 33 = .ok (.newarray .int, 2) := by decide +kernel
theorem dX3_init_35 : decode cX3_init 35 = .ok (.putfield 28, 3) := by decide +kernel
theorem dX3_init_38 : decode cX3_init 38 = .ok (.aload_n 0, 1) := by decide +kernel
theorem dX3_init_39 : decode cX3_init 39 = .ok (.iconst 3, 1) := by decide +kernel
theorem dX3_init_40 : decode cX3_init 40 = .ok (.newarray .int, 2) := by decide +kernel
theorem dX3_init_42 : decode cX3_init 42 = .ok (.putfield 31, 3) := by decide +kernel
theorem dX3_init_45 : decode cX3_init 45 = .ok (.aload_n 0, 1) := by decide +kernel
theorem dX3_init_46 : decode cX3_init 46 = .ok (.iconst 3, 1) := by decide +kernel
theorem dX3_init_47 : decode cX3_init 47 = .ok (.newarray .int, 2) := by decide +kernel
theorem dX3_init_49 : decode cX3_init 49 = .ok (.putfield 34, 3) := by decide +kernel
theorem dX3_init_52 : decode cX3_init 52 = .ok (.aload_n 0, 1) := by decide +kernel
theorem dX3_init_53 : decode cX3_init 53 = .ok (.iconst 3, 1) := by decide +kernel
theorem dX3_init_54 : decode cX3_init 54 = .ok (.newarray .int, 2) := by decide +kernel
theorem dX3_init_56 : decode cX3_init 56 = .ok (.putfield 37, 3) := by decide +kernel
theorem dX3_init_59 : decode cX3_init 59 = .ok (.aload_n 0, 1) := by decide +kernel
theorem dX3_init_60 : decode cX3_init 60 = .ok (.iconst 0, 1) := by decide +kernel
theorem dX3_init_61 : decode cX3_init 61 = .ok (.putfield 40, 3) := by decide +kernel
theorem dX3_init_64 : decode cX3_init 64 = .ok (.aload_n 0, 1) := by decide +kernel
theorem dX3_init_65 : decode cX3_init 65 = .ok (.iconst 0, 1) := by decide +kernel
theorem dX3_init_66 : decode cX3_init 66 = .ok (.putfield 43, 3) := by decide +kernel
theorem dX3_init_69 : decode cX3_init 69 = .ok (.return_, 1) := by decide +kernel
theorem dX3_isPrice_0 : decode cX3_isPrice 0 = .ok (.iload_n 1, 1) := by decide +kernel
theorem dX3_isPrice_1 : decode cX3_isPrice 1 = .ok (.ifCond .lt 15, 3) := by decide +kernel
theorem dX3_isPrice_4 : decode cX3_isPrice 4 = .ok (.iload_n 1, 1) := by decide +kernel
theorem dX3_isPrice_5 : decode cX3_isPrice 5 = .ok (.aload_n 0, 1) := by decide +kernel
theorem dX3_isPrice_6 : decode cX3_isPrice 6 = .ok (.getfield 25, 3) := by decide +kernel
theorem dX3_isPrice_9 : decode cX3_isPrice 9 = .ok (.if_icmp .ge 7, 3) := by decide +kernel
theorem dX3_isPrice_12 : decode cX3_isPrice 12 = .ok (.iconst 1, 1) := by decide +kernel
theorem dX3_isPrice_13 : decode cX3_isPrice 13 = .ok (.goto 4, 3) := by decide +kernel
theorem dX3_isPrice_16 : decode cX3_isPrice 16 = .ok (.iconst 0, 1) := by decide +kernel
theorem dX3_isPrice_17 : decode cX3_isPrice 17 = .ok (.ireturn, 1) := by decide +kernel
theorem dX3_isSort_0 : decode cX3_isSort 0 = .ok (.iload_n 1, 1) := by decide +kernel
theorem dX3_isSort_1 : decode cX3_isSort 1 = .ok (.ifCond .lt 15, 3) := by decide +kernel
theorem dX3_isSort_4 : decode cX3_isSort 4 = .ok (.iload_n 1, 1) := by decide +kernel
theorem dX3_isSort_5 : decode cX3_isSort 5 = .ok (.aload_n 0, 1) := by decide +kernel
theorem dX3_isSort_6 : decode cX3_isSort 6 = .ok (.getfield 40, 3) := by decide +kernel
theorem dX3_isSort_9 : decode cX3_isSort 9 = .ok (.if_icmp .ge 7, 3) := by decide +kernel
theorem dX3_isSort_12 : decode cX3_isSort 12 = .ok (.iconst 1, 1) := by decide +kernel
theorem dX3_isSort_13 : decode cX3_isSort 13 = .ok (.goto 4, 3) := by decide +kernel
theorem dX3_isSort_16 : decode cX3_isSort 16 = .ok (.iconst 0, 1) := by decide +kernel
theorem dX3_isSort_17 : decode cX3_isSort 17 = .ok (.ireturn, 1) := by decide +kernel
theorem dX3_isWaiting_0 : decode cX3_isWaiting 0 = .ok (.aload_n 0, 1) := by decide +kernel
theorem dX3_isWaiting_1 : decode cX3_isWaiting 1 = .ok (.getfield 37, 3) := by decide +kernel
theorem dX3_isWaiting_4 : decode cX3_isWaiting 4 = .ok (.iload_n 1, 1) := by decide +kernel
theorem dX3_isWaiting_5 : decode cX3_isWaiting 5 = .ok (.iaload, 1) := by decide +kernel
theorem dX3_isWaiting_6 : decode cX3_isWaiting 6 = .ok (.iconst (-1), 1) := by decide +kernel
theorem dX3_isWaiting_7 : decode cX3_isWaiting 7 = .ok (.if_icmp .eq 7, 3) := by decide +kernel
theorem dX3_isWaiting_10 : decode cX3_isWaiting 10 = .ok (.iconst 1, 1) := by decide +kernel
theorem dX3_isWaiting_11 : decode cX3_isWaiting 11 = .ok (.goto 4, 3) := by decide +kernel
theorem dX3_isWaiting_14 : decode cX3_isWaiting 14 = .ok (.iconst 0, 1) := by decide +kernel
theorem dX3_isWaiting_15 : decode cX3_isWaiting 15 = .ok (.ireturn, 1) := by decide +kernel
theorem dX3_waitTold_0 : decode cX3_waitTold 0 = .ok (.aload_n 0, 1) := by decide +kernel
theorem dX3_waitTold_1 : decode cX3_waitTold 1 = .ok (.iload_n 1, 1) := by decide +kernel
theorem dX3_waitTold_2 : decode cX3_waitTold 2 = .ok (.invokevirtual 46, 3) := by decide +kernel
theorem dX3_waitTold_5 : decode cX3_waitTold 5 = .ok (.ifCond .eq 12, 3) := by decide +kernel
theorem dX3_waitTold_8 : decode cX3_waitTold 8 = .ok (.aload_n 0, 1) := by decide +kernel
theorem dX3_waitTold_9 : decode cX3_waitTold 9 = .ok (.getfield 37, 3) := by decide +kernel
theorem dX3_waitTold_12 : decode cX3_waitTold 12 = .ok (.iload_n 1, 1) := by decide +kernel
theorem dX3_waitTold_13 : decode cX3_waitTold 13 = .ok (.iaload, 1) := by decide +kernel
theorem dX3_waitTold_14 : decode cX3_waitTold 14 = .ok (.goto 5, 3) := by decide +kernel
theorem dX3_waitTold_17 : decode cX3_waitTold 17 = .ok (.bipush (-6), 2) := by decide +kernel
theorem dX3_waitTold_19 : decode cX3_waitTold 19 = .ok (.ireturn, 1) := by decide +kernel
theorem dX3_worthOn_0 : decode cX3_worthOn 0 = .ok (.aload_n 0, 1) := by decide +kernel
theorem dX3_worthOn_1 : decode cX3_worthOn 1 = .ok (.getfield 31, 3) := by decide +kernel
theorem dX3_worthOn_4 : decode cX3_worthOn 4 = .ok (.iload_n 1, 1) := by decide +kernel
theorem dX3_worthOn_5 : decode cX3_worthOn 5 = .ok (.iaload, 1) := by decide +kernel
theorem dX3_worthOn_6 : decode cX3_worthOn 6 = .ok (.aload_n 0, 1) := by decide +kernel
theorem dX3_worthOn_7 : decode cX3_worthOn 7 = .ok (.getfield 34, 3) := by decide +kernel
theorem dX3_worthOn_10 : decode cX3_worthOn 10 = .ok (.iload_n 1, 1) := by decide +kernel
theorem dX3_worthOn_11 : decode cX3_worthOn 11 = .ok (.iaload, 1) := by decide +kernel
theorem dX3_worthOn_12 : decode cX3_worthOn 12 = .ok (.iload_n 2, 1) := by decide +kernel
theorem dX3_worthOn_13 : decode cX3_worthOn 13 = .ok (.imul, 1) := by decide +kernel
theorem dX3_worthOn_14 : decode cX3_worthOn 14 = .ok (.isub, 1) := by decide +kernel
theorem dX3_worthOn_15 : decode cX3_worthOn 15 = .ok (.istore_n 3, 1) := by decide +kernel
theorem dX3_worthOn_16 : decode cX3_worthOn 16 = .ok (.iload_n 3, 1) := by decide +kernel
theorem dX3_worthOn_17 : decode cX3_worthOn 17 = .ok (.ifCond .le 7, 3) := by decide +kernel
theorem dX3_worthOn_20 : decode cX3_worthOn 20 = .ok (.iload_n 3, 1) := by decide +kernel
theorem dX3_worthOn_21 : decode cX3_worthOn 21 = .ok (.goto 4, 3) := by decide +kernel
theorem dX3_worthOn_24 : decode cX3_worthOn 24 = .ok (.iconst 0, 1) := by decide +kernel
theorem dX3_worthOn_25 : decode cX3_worthOn 25 = .ok (.ireturn, 1) := by decide +kernel
theorem dX3_chanceToBuy_0 : decode cX3_chanceToBuy 0 = .ok (.aload_n 0, 1) := by decide +kernel
theorem dX3_chanceToBuy_1 : decode cX3_chanceToBuy 1 = .ok (.iload_n 1, 1) := by decide +kernel
theorem dX3_chanceToBuy_2 : decode cX3_chanceToBuy 2 = .ok (.iload_n 2, 1) := by decide +kernel
theorem dX3_chanceToBuy_3 : decode cX3_chanceToBuy 3 = .ok (.invokevirtual 50, 3) := by decide +kernel
theorem dX3_chanceToBuy_6 : decode cX3_chanceToBuy 6 = .ok (.aload_n 0, 1) := by decide +kernel
theorem dX3_chanceToBuy_7 : decode cX3_chanceToBuy 7 = .ok (.getfield 21, 3) := by decide +kernel
theorem dX3_chanceToBuy_10 : decode cX3_chanceToBuy 10 = .ok (.iload_n 3, 1) := by decide +kernel
theorem dX3_chanceToBuy_11 : decode cX3_chanceToBuy 11 = .ok (.iaload, 1) := by decide +kernel
theorem dX3_chanceToBuy_12 : decode cX3_chanceToBuy 12 = .ok (.if_icmp .lt 12, 3) := by decide +kernel
theorem dX3_chanceToBuy_15 : decode cX3_chanceToBuy 15 = .ok (.aload_n 0, 1) := by decide +kernel
theorem dX3_chanceToBuy_16 : decode cX3_chanceToBuy 16 = .ok (.getfield 28, 3) := by decide +kernel
theorem dX3_chanceToBuy_19 : decode cX3_chanceToBuy 19 = .ok (.iload_n 1, 1) := by decide +kernel
theorem dX3_chanceToBuy_20 : decode cX3_chanceToBuy 20 = .ok (.iaload, 1) := by decide +kernel
theorem dX3_chanceToBuy_21 : decode cX3_chanceToBuy 21 = .ok (.goto 4, 3) := by decide +kernel
theorem dX3_chanceToBuy_24 : decode cX3_chanceToBuy 24 = .ok (.iconst 0, 1) := by decide +kernel
theorem dX3_chanceToBuy_25 : decode cX3_chanceToBuy 25 = .ok (.ireturn, 1) := by decide +kernel
theorem dX3_dayPicked_0 : decode cX3_dayPicked 0 = .ok (.bipush (-6), 2) := by decide +kernel
theorem dX3_dayPicked_2 : decode cX3_dayPicked 2 = .ok (.istore 4, 2) := by decide +kernel
theorem dX3_dayPicked_4 : decode cX3_dayPicked 4 = .ok (.iconst (-1), 1) := by decide +kernel
theorem dX3_dayPicked_5 : decode cX3_dayPicked 5 = .ok (.istore 5, 2) := by decide +kernel
theorem dX3_dayPicked_7 : decode cX3_dayPicked 7 = .ok (.iload_n 2, 1) := by decide +kernel
theorem dX3_dayPicked_8 : decode cX3_dayPicked 8 = .ok (.istore 6, 2) := by decide +kernel
theorem dX3_dayPicked_10 : decode cX3_dayPicked 10 = .ok (.iload 6, 2) := by decide +kernel
theorem dX3_dayPicked_12 : decode cX3_dayPicked 12 = .ok (.aload_n 0, 1) := by decide +kernel
theorem dX3_dayPicked_13 : decode cX3_dayPicked 13 = .ok (.getfield 15, 3) := by decide +kernel
theorem dX3_dayPicked_16 : decode cX3_dayPicked 16 = .ok (.if_icmp .ge 55, 3) := by decide +kernel
theorem dX3_dayPicked_19 : decode cX3_dayPicked 19 = .ok (.aload_n 0, 1) := by decide +kernel
theorem dX3_dayPicked_20 : decode cX3_dayPicked 20 = .ok (.iload_n 1, 1) := by decide +kernel
theorem dX3_dayPicked_21 : decode cX3_dayPicked 21 = .ok (.iload 6, 2) := by decide +kernel
theorem dX3_dayPicked_23 : decode cX3_dayPicked 23 = .ok (.invokevirtual 50, 3) := by decide +kernel
theorem dX3_dayPicked_26 : decode cX3_dayPicked 26 = .ok (.aload_n 0, 1) := by decide +kernel
theorem dX3_dayPicked_27 : decode cX3_dayPicked 27 = .ok (.getfield 21, 3) := by decide +kernel
theorem dX3_dayPicked_30 : decode cX3_dayPicked 30 = .ok (.aload_n 3, 1) := by decide +kernel
theorem dX3_dayPicked_31 : decode cX3_dayPicked 31 = .ok (.iload 6, 2) := by decide +kernel
theorem dX3_dayPicked_33 : decode cX3_dayPicked 33 = .ok (.iaload, 1) := by decide +kernel
theorem dX3_dayPicked_34 : decode cX3_dayPicked 34 = .ok (.iaload, 1) := by decide +kernel
theorem dX3_dayPicked_35 : decode cX3_dayPicked 35 = .ok (.isub, 1) := by decide +kernel
theorem dX3_dayPicked_36 : decode cX3_dayPicked 36 = .ok (.aload_n 0, 1) := by decide +kernel
theorem dX3_dayPicked_37 : decode cX3_dayPicked 37 = .ok (.getfield 37, 3) := by decide +kernel
theorem dX3_dayPicked_40 : decode cX3_dayPicked 40 = .ok (.iload_n 1, 1) := by decide +kernel
theorem dX3_dayPicked_41 : decode cX3_dayPicked 41 = .ok (.iaload, 1) := by decide +kernel
theorem dX3_dayPicked_42 : decode cX3_dayPicked 42 = .ok (.iload 6, 2) := by decide +kernel
theorem dX3_dayPicked_44 : decode cX3_dayPicked 44 = .ok (.iload_n 2, 1) := by decide +kernel
theorem dX3_dayPicked_45 : decode cX3_dayPicked 45 = .ok (.isub, 1) := by decide +kernel
theorem dX3_dayPicked_46 : decode cX3_dayPicked 46 = .ok (.imul, 1) := by decide +kernel
theorem dX3_dayPicked_47 : decode cX3_dayPicked 47 = .ok (.isub, 1) := by decide +kernel
theorem dX3_dayPicked_48 : decode cX3_dayPicked 48 = .ok (.istore 7, 2) := by decide +kernel
theorem dX3_dayPicked_50 : decode cX3_dayPicked 50 = .ok (.iload 7, 2) := by decide +kernel
theorem dX3_dayPicked_52 : decode cX3_dayPicked 52 = .ok (.iload 5, 2) := by decide +kernel
theorem dX3_dayPicked_54 : decode cX3_dayPicked 54 = .ok (.if_icmp .le 11, 3) := by decide +kernel
theorem dX3_dayPicked_57 : decode cX3_dayPicked 57 = .ok (.iload 7, 2) := by decide +kernel
theorem dX3_dayPicked_59 : decode cX3_dayPicked 59 = .ok (.istore 5, 2) := by decide +kernel
theorem dX3_dayPicked_61 : decode cX3_dayPicked 61 = .ok (.iload 6, 2) := by decide +kernel
theorem dX3_dayPicked_63 : decode cX3_dayPicked 63 = .ok (.istore 4, 2) := by decide +kernel
theorem dX3_dayPicked_65 : decode cX3_dayPicked 65 = .ok (.iinc 6 1, 3) := by decide +kernel
theorem dX3_dayPicked_68 : decode cX3_dayPicked 68 = .ok (.goto (-58), 3) := by decide +kernel
theorem dX3_dayPicked_71 : decode cX3_dayPicked 71 = .ok (.iload 4, 2) := by decide +kernel
theorem dX3_dayPicked_73 : decode cX3_dayPicked 73 = .ok (.ireturn, 1) := by decide +kernel
theorem dX3_scale_0 : decode cX3_scale 0 = .ok (.lconst 1, 1) := by decide +kernel
theorem dX3_scale_1 : decode cX3_scale 1 = .ok (.iconst 2, 1) := by decide +kernel
theorem dX3_scale_2 : decode cX3_scale 2 = .ok (.aload_n 0, 1) := by decide +kernel
theorem dX3_scale_3 : decode cX3_scale 3 = .ok (.getfield 40, 3) := by decide +kernel
theorem dX3_scale_6 : decode cX3_scale 6 = .ok (.imul, 1) := by decide +kernel
theorem dX3_scale_7 : decode cX3_scale 7 = .ok (.iload_n 1, 1) := by decide +kernel
theorem dX3_scale_8 : decode cX3_scale 8 = .ok (.imul, 1) := by decide +kernel
theorem dX3_scale_9 : decode cX3_scale 9 = .ok (.lshl, 1) := by decide +kernel
theorem dX3_scale_10 : decode cX3_scale 10 = .ok (.lreturn, 1) := by decide +kernel
