theorem dX0_init_0 : decode cX0_init 0 = .ok (.aload_n 0, 1) := by decide +kernel
theorem dX0_init_1 : decode cX0_init 1 = .ok (.invokespecial 3, 3) := by decide +kernel
theorem dX0_init_4 : decode cX0_init 4 = .ok (.aload_n 0, 1) := by decide +kernel
theorem dX0_init_5 : decode cX0_init 5 = .ok (.bipush 10, 2) := by decide +kernel
theorem dX0_init_7 : decode cX0_init 7 = .ok (.putfield 9, 3) := by decide +kernel
theorem dX0_init_10 : decode cX0_init 10 = .ok (.aload_n 0, 1) := by decide +kernel
theorem dX0_init_11 : decode cX0_init 11 = .ok (.sipush 200, 3) := by decide +kernel
theorem dX0_init_14 : decode cX0_init 14 = .ok (.putfield 15, 3) := by decide +kernel
theorem dX0_init_17 : decode cX0_init 17 = .ok (.aload_n 0, 1) := by decide +kernel
theorem dX0_init_18 : decode cX0_init 18 = .ok (.iconst 1, 1) := by decide +kernel
theorem dX0_init_19 : decode cX0_init 19 = .ok (.putfield 18, 3) := by decide +kernel
theorem dX0_init_22 : decode cX0_init 22 = .ok (.aload_n 0, 1) := by decide +kernel
theorem dX0_init_23 : decode cX0_init 23 = .ok (.iconst 1, 1) := by decide +kernel
theorem dX0_init_24 : decode cX0_init 24 = .ok (.putfield 21, 3) := by decide +kernel
theorem dX0_init_27 : decode cX0_init 27 = .ok (.aload_n 0, 1) := by decide +kernel
theorem dX0_init_28 : decode cX0_init 28 = .ok (.bipush 16, 2) := by decide +kernel
theorem dX0_init_30 : decode cX0_init 30 = .ok (.anewarray 24, 3) := by decide +kernel
theorem dX0_init_33 : decode cX0_init 33 = .ok (.putfield 26, 3) := by decide +kernel
theorem dX0_init_36 : decode cX0_init 36 = .ok (.aload_n 0, 1) := by decide +kernel
theorem dX0_init_37 : decode cX0_init 37 = .ok (.new 30, 3) := by decide +kernel
theorem dX0_init_40 : decode cX0_init 40 = .ok (.dup, 1) := by decide +kernel
theorem dX0_init_41 : decode cX0_init 41 = .ok (.invokespecial 32, 3) := by decide +kernel
theorem dX0_init_44 : decode cX0_init 44 = .ok (.putfield 33, 3) := by decide +kernel
theorem dX0_init_47 : decode cX0_init 47 = .ok (.aload_n 0, 1) := by decide +kernel
theorem dX0_init_48 : decode cX0_init 48 = .ok (.new 30, 3) := by decide +kernel
theorem dX0_init_51 : decode cX0_init 51 = .ok (.dup, 1) := by decide +kernel
theorem dX0_init_52 : decode cX0_init 52 = .ok (.invokespecial 32, 3) := by decide +kernel
theorem dX0_init_55 : decode cX0_init 55 = .ok (.putfield 37, 3) := by decide +kernel
theorem dX0_init_58 : decode cX0_init 58 = .ok (.aload_n 0, 1) := by decide +kernel
theorem dX0_init_59 : decode cX0_init 59 = .ok (.new 40, 3) := by decide +kernel
theorem dX0_init_62 : decode cX0_init 62 = .ok (.dup, 1) := by decide +kernel
theorem dX0_init_63 : decode cX0_init 63 = .ok (.invokespecial 42, 3) := by decide +kernel
theorem dX0_init_66 : decode cX0_init 66 = .ok (.putfield 43, 3) := by decide +kernel
theorem dX0_init_69 : decode cX0_init 69 = .ok (.iconst 0, 1) := by decide +kernel
theorem dX0_init_70 : decode cX0_init 70 = .ok (.istore_n 1, 1) := by decide +kernel
theorem dX0_init_71 : decode cX0_init 71 = .ok (.iload_n 1, 1) := by decide +kernel
theorem dX0_init_72 : decode cX0_init 72 = .ok (.aload_n 0, 1) := by decide +kernel
theorem dX0_init_73 : decode cX0_init 73 = .ok (.getfield 26, 3) := by decide +kernel
theorem dX0_init_76 : decode cX0_init 76 = .ok (.arraylength, 1) := by decide +kernel
theorem dX0_init_77 : decode cX0_init 77 = .ok (.if_icmp .ge 23, 3) := by decide +kernel
theorem dX0_init_80 : decode cX0_init 80 = .ok (.aload_n 0, 1) := by decide +kernel
theorem dX0_init_81 : decode cX0_init 81 = .ok (.getfield 26, 3) := by decide +kernel
theorem dX0_init_84 : decode cX0_init 84 = .ok (.iload_n 1, 1) := by decide +kernel
theorem dX0_init_85 : decode cX0_init 85 = .ok (.new 24, 3) := by decide +kernel
theorem dX0_init_88 : decode cX0_init 88 = .ok (.dup, 1) := by decide +kernel
theorem dX0_init_89 : decode cX0_init 89 = .ok (.iload_n 1, 1) := by decide +kernel
theorem dX0_init_90 : decode cX0_init 90 = .ok (.invokespecial 47, 3) := by decide +kernel
theorem dX0_init_93 : decode cX0_init 93 = .ok (.aastore, 1) := by decide +kernel
theorem dX0_init_94 : decode cX0_init 94 = .ok (.iinc 1 1, 3) := by decide +kernel
theorem dX0_init_97 : decode cX0_init 97 = .ok (.goto (-26), 3) := by decide +kernel
theorem dX0_init_100 : decode cX0_init 100 = .ok (.return_, 1) := by decide +kernel
theorem dX0_gateAt_0 : decode cX0_gateAt 0 = .ok (.iload_n 1, 1) := by decide +kernel
theorem dX0_gateAt_1 : decode cX0_gateAt 1 = .ok (.ifCond .ne 10, 3) := by decide +kernel
theorem dX0_gateAt_4 : decode cX0_gateAt 4 = .ok (.aload_n 0, 1) := by decide +kernel
theorem dX0_gateAt_5 : decode cX0_gateAt 5 = .ok (.getfield 33, 3) := by decide +kernel
theorem dX0_gateAt_8 : decode cX0_gateAt 8 = .ok (.goto 7, 3) := by decide +kernel
theorem dX0_gateAt_11 : decode cX0_gateAt 11 = .ok (.aload_n 0, 1) := by decide +kernel
theorem dX0_gateAt_12 : decode cX0_gateAt 12 = .ok (.getfield 37, 3) := by decide +kernel
theorem dX0_gateAt_15 : decode cX0_gateAt 15 = .ok (.areturn, 1) := by decide +kernel
theorem dX0_cartAt_0 : decode cX0_cartAt 0 = .ok (.iload_n 1, 1) := by decide +kernel
theorem dX0_cartAt_1 : decode cX0_cartAt 1 = .ok (.aload_n 0, 1) := by decide +kernel
theorem dX0_cartAt_2 : decode cX0_cartAt 2 = .ok (.getfield 50, 3) := by decide +kernel
theorem dX0_cartAt_5 : decode cX0_cartAt 5 = .ok (.if_icmp .ge 24, 3) := by decide +kernel
theorem dX0_cartAt_8 : decode cX0_cartAt 8 = .ok (.iload_n 1, 1) := by decide +kernel
theorem dX0_cartAt_9 : decode cX0_cartAt 9 = .ok (.aload_n 0, 1) := by decide +kernel
theorem dX0_cartAt_10 : decode cX0_cartAt 10 = .ok (.getfield 26, 3) := by decide +kernel
theorem dX0_cartAt_13 : decode cX0_cartAt 13 = .ok (.arraylength, 1) := by decide +kernel
theorem dX0_cartAt_14 : decode cX0_cartAt 14 = .ok (.invokestatic 53, 3) := by decide +kernel
theorem dX0_cartAt_17 : decode cX0_cartAt 17 = .ok (.ifCond .eq 12, 3) := by decide +kernel
theorem dX0_cartAt_20 : decode cX0_cartAt 20 = .ok (.aload_n 0, 1) := by decide +kernel
theorem dX0_cartAt_21 : decode cX0_cartAt 21 = .ok (.getfield 26, 3) := by decide +kernel
theorem dX0_cartAt_24 : decode cX0_cartAt 24 = .ok (.iload_n 1, 1) := by decide +kernel
theorem dX0_cartAt_25 : decode cX0_cartAt 25 = .ok (.aaload, 1) := by decide +kernel
theorem dX0_cartAt_26 : decode cX0_cartAt 26 = .ok (.goto 4, 3) := by decide +kernel
theorem dX0_cartAt_29 : decode cX0_cartAt 29 = .ok (.aconst_null, 1) := by decide +kernel
theorem dX0_cartAt_30 : decode cX0_cartAt 30 = .ok (.areturn, 1) := by decide +kernel
theorem dX0_newCart_0 : decode cX0_newCart 0 = .ok (.aload_n 0, 1) := by decide +kernel
theorem dX0_newCart_1 : decode cX0_newCart 1 = .ok (.getfield 50, 3) := by decide +kernel
theorem dX0_newCart_4 : decode cX0_newCart 4 = .ok (.aload_n 0, 1) := by decide +kernel
theorem dX0_newCart_5 : decode cX0_newCart 5 = .ok (.getfield 26, 3) := by decide +kernel
theorem dX0_newCart_8 : decode cX0_newCart 8 = .ok (.arraylength, 1) := by decide +kernel
theorem dX0_newCart_9 : decode cX0_newCart 9 = .ok (.if_icmp .lt 5, 3) := by decide +kernel
theorem dX0_newCart_12 : decode cX0_newCart 12 = .ok (.aconst_null, 1) := by decide +kernel
theorem dX0_newCart_13 : decode cX0_newCart 13 = .ok (.areturn, 1) := by decide +kernel
theorem dX0_newCart_14 : decode cX0_newCart 14 = .ok (.aload_n 0, 1) := by decide +kernel
theorem dX0_newCart_15 : decode cX0_newCart 15 = .ok (.dup, 1) := by decide +kernel
theorem dX0_newCart_16 : decode cX0_newCart 16 = .ok (.getfield 50, 3) := by decide +kernel
theorem dX0_newCart_19 : decode cX0_newCart 19 = .ok (.iconst 1, 1) := by decide +kernel
theorem dX0_newCart_20 : decode cX0_newCart 20 = .ok (.iadd, 1) := by decide +kernel
theorem dX0_newCart_21 : decode cX0_newCart 21 = .ok (.putfield 50, 3) := by decide +kernel
theorem dX0_newCart_24 : decode cX0_newCart 24 = .ok (.aload_n 0, 1) := by decide +kernel
theorem dX0_newCart_25 : decode cX0_newCart 25 = .ok (.aload_n 0, 1) := by decide +kernel
theorem dX0_newCart_26 : decode cX0_newCart 26 = .ok (.getfield 50, 3) := by decide +kernel
theorem dX0_newCart_29 : decode cX0_newCart 29 = .ok (.iconst 1, 1) := by decide +kernel
theorem dX0_newCart_30 : decode cX0_newCart 30 = .ok (.isub, 1) := by decide +kernel
theorem dX0_newCart_31 : decode cX0_newCart 31 = .ok (.invokevirtual 57, 3) := by decide +kernel
theorem dX0_newCart_34 : decode cX0_newCart 34 = .ok (.areturn, 1) := by decide +kernel
theorem dX0_turn_0 : decode cX0_turn 0 = .ok (.aload_n 0, 1) := by decide +kernel
theorem dX0_turn_1 : decode cX0_turn 1 = .ok (.iconst 1, 1) := by decide +kernel
theorem dX0_turn_2 : decode cX0_turn 2 = .ok (.aload_n 0, 1) := by decide +kernel
theorem dX0_turn_3 : decode cX0_turn 3 = .ok (.getfield 61, 3) := by decide +kernel
theorem dX0_turn_6 : decode cX0_turn 6 = .ok (.isub, 1) := by decide +kernel
theorem dX0_turn_7 : decode cX0_turn 7 = .ok (.putfield 61, 3) := by decide +kernel
theorem dX0_turn_10 : decode cX0_turn 10 = .ok (.return_, 1) := by decide +kernel
theorem dX0_run_0 : decode cX0_run 0 = .ok (.iconst 0, 1) := by decide +kernel
theorem dX0_run_1 : decode cX0_run 1 = .ok (.istore_n 2, 1) := by decide +kernel
theorem dX0_run_2 : decode cX0_run 2 = .ok (.iconst 0, 1) := by decide +kernel
theorem dX0_run_3 : decode cX0_run 3 = .ok (.istore_n 3, 1) := by decide +kernel
theorem dX0_run_4 : decode cX0_run 4 = .ok (.iload_n 3, 1) := by decide +kernel
theorem dX0_run_5 : decode cX0_run 5 = .ok (.iload_n 1, 1) := by decide +kernel
theorem dX0_run_6 : decode cX0_run 6 = .ok (.if_icmp .ge 30, 3) := by decide +kernel
theorem dX0_run_9 : decode cX0_run 9 = .ok (.iload_n 2, 1) := by decide +kernel
theorem dX0_run_10 : decode cX0_run 10 = .ok (.aload_n 0, 1) := by decide +kernel
theorem dX0_run_11 : decode cX0_run 11 = .ok (.invokevirtual 64, 3) := by decide +kernel
theorem dX0_run_14 : decode cX0_run 14 = .ok (.iadd, 1) := by decide +kernel
theorem dX0_run_15 : decode cX0_run 15 = .ok (.istore_n 2, 1) := by decide +kernel
theorem dX0_run_16 : decode cX0_run 16 = .ok (.aload_n 0, 1) := by decide +kernel
theorem dX0_run_17 : decode cX0_run 17 = .ok (.invokevirtual 68, 3) := by decide +kernel
theorem dX0_run_20 : decode cX0_run 20 = .ok (.aload_n 0, 1) := by decide +kernel
theorem dX0_run_21 : decode cX0_run 21 = .ok (.dup, 1) := by decide +kernel
theorem dX0_run_22 : decode cX0_run 22 = .ok (.getfield 71, 3) := by decide +kernel
theorem dX0_run_25 : decode cX0_run 25 = .ok (.iconst 1, 1) := by decide +kernel
theorem dX0_run_26 : decode cX0_run 26 = .ok (.iadd, 1) := by decide +kernel
theorem dX0_run_27 : decode cX0_run 27 = .ok (.putfield 71, 3) := by decide +kernel
theorem dX0_run_30 : decode cX0_run 30 = .ok (.iinc 3 1, 3) := by decide +kernel
theorem dX0_run_33 : decode cX0_run 33 = .ok (.goto (-29), 3) := by decide +kernel
theorem dX0_run_36 : decode cX0_run 36 = .ok (.iload_n 2, 1) := by decide +kernel
theorem dX0_run_37 : decode cX0_run 37 = .ok (.ireturn, 1) := by decide +kernel
theorem dX0_isOver_0 : decode cX0_isOver 0 = .ok (.aload_n 0, 1) := by decide +kernel
theorem dX0_isOver_1 : decode cX0_isOver 1 = .ok (.iload_n 1, 1) := by decide +kernel
theorem dX0_isOver_2 : decode cX0_isOver 2 = .ok (.invokevirtual 57, 3) := by decide +kernel
theorem dX0_isOver_5 : decode cX0_isOver 5 = .ok (.astore_n 2, 1) := by decide +kernel
theorem dX0_isOver_6 : decode cX0_isOver 6 = .ok (.aload_n 2, 1) := by decide +kernel
theorem dX0_isOver_7 : decode cX0_isOver 7 = .ok (.ifnull 15, 3) := by decide +kernel
theorem dX0_isOver_10 : decode cX0_isOver 10 = .ok (.aload_n 2, 1) := by decide +kernel
theorem dX0_isOver_11 : decode cX0_isOver 11 = .ok (.getfield 74, 3) := by decide +kernel
theorem dX0_isOver_14 : decode cX0_isOver 14 = .ok (.iconst 2, 1) := by decide +kernel
theorem dX0_isOver_15 : decode cX0_isOver 15 = .ok (.if_icmp .ne 7, 3) := by decide +kernel
theorem dX0_isOver_18 : decode cX0_isOver 18 = .ok (.iconst 1, 1) := by decide +kernel
theorem dX0_isOver_19 : decode cX0_isOver 19 = .ok (.goto 4, 3) := by decide +kernel
theorem dX0_isOver_22 : decode cX0_isOver 22 = .ok (.iconst 0, 1) := by decide +kernel
theorem dX0_isOver_23 : decode cX0_isOver 23 = .ok (.ireturn, 1) := by decide +kernel
theorem dX0_coinsInBoxes_0 : decode cX0_coinsInBoxes 0 = .ok (.aload_n 0, 1) := by decide +kernel
theorem dX0_coinsInBoxes_1 : decode cX0_coinsInBoxes 1 = .ok (.getfield 33, 3) := by decide +kernel
theorem dX0_coinsInBoxes_4 : decode cX0_coinsInBoxes 4 = .ok (.getfield 77, 3) := by decide +kernel
theorem dX0_coinsInBoxes_7 : decode cX0_coinsInBoxes 7 = .ok (.aload_n 0, 1) := by decide +kernel
theorem dX0_coinsInBoxes_8 : decode cX0_coinsInBoxes 8 = .ok (.getfield 37, 3) := by decide +kernel
theorem dX0_coinsInBoxes_11 : decode cX0_coinsInBoxes 11 = .ok (.getfield 77, 3) := by decide +kernel
theorem dX0_coinsInBoxes_14 : decode cX0_coinsInBoxes 14 = .ok (.iadd, 1) := by decide +kernel
theorem dX0_coinsInBoxes_15 : decode cX0_coinsInBoxes 15 = .ok (.ireturn, 1) := by decide +kernel
theorem dX0_cartsIn_0 : decode cX0_cartsIn 0 = .ok (.iconst 0, 1) := by decide +kernel
theorem dX0_cartsIn_1 : decode cX0_cartsIn 1 = .ok (.istore_n 2, 1) := by decide +kernel
theorem dX0_cartsIn_2 : decode cX0_cartsIn 2 = .ok (.iconst 0, 1) := by decide +kernel
theorem dX0_cartsIn_3 : decode cX0_cartsIn 3 = .ok (.istore_n 3, 1) := by decide +kernel
theorem dX0_cartsIn_4 : decode cX0_cartsIn 4 = .ok (.iload_n 3, 1) := by decide +kernel
theorem dX0_cartsIn_5 : decode cX0_cartsIn 5 = .ok (.aload_n 0, 1) := by decide +kernel
theorem dX0_cartsIn_6 : decode cX0_cartsIn 6 = .ok (.getfield 50, 3) := by decide +kernel
theorem dX0_cartsIn_9 : decode cX0_cartsIn 9 = .ok (.if_icmp .ge 33, 3) := by decide +kernel
theorem dX0_cartsIn_12 : decode cX0_cartsIn 12 = .ok (.aload_n 0, 1) := by decide +kernel
theorem dX0_cartsIn_13 : decode cX0_cartsIn 13 = .ok (.iload_n 3, 1) := by decide +kernel
theorem dX0_cartsIn_14 : decode cX0_cartsIn 14 = .ok (.invokevirtual 57, 3) := by decide +kernel
theorem dX0_cartsIn_17 : decode cX0_cartsIn 17 = .ok (.astore 4, 2) := by decide +kernel
theorem dX0_cartsIn_19 : decode cX0_cartsIn 19 = .ok (.aload 4, 2) := by decide +kernel
theorem dX0_cartsIn_21 : decode cX0_cartsIn 21 = .ok (.ifnull 15, 3) := by decide +kernel
theorem dX0_cartsIn_24 : decode cX0_cartsIn 24 = .ok (.aload 4, 2) := by decide +kernel
theorem dX0_cartsIn_26 : decode cX0_cartsIn 26 = .ok (.getfield 74, 3) := by decide +kernel
theorem dX0_cartsIn_29 : decode cX0_cartsIn 29 = .ok (.iload_n 1, 1) := by decide +kernel
theorem dX0_cartsIn_30 : decode cX0_cartsIn 30 = .ok (.if_icmp .ne 6, 3) := by decide +kernel
theorem dX0_cartsIn_33 : decode cX0_cartsIn 33 = .ok (.iinc 2 1, 3) := by decide +kernel
theorem dX0_cartsIn_36 : decode cX0_cartsIn 36 = .ok (.iinc 3 1, 3) := by decide +kernel
theorem dX0_cartsIn_39 : decode cX0_cartsIn 39 = .ok (.goto (-35), 3) := by decide +kernel
theorem dX0_cartsIn_42 : decode cX0_cartsIn 42 = .ok (.iload_n 2, 1) := by decide +kernel
theorem dX0_cartsIn_43 : decode cX0_cartsIn 43 = .ok (.ireturn, 1) := by decide +kernel
theorem dX0_weightOnBridge_0 : decode cX0_weightOnBridge 0 = .ok (.iconst 0, 1) := by decide +kernel
theorem dX0_weightOnBridge_1 : decode cX0_weightOnBridge 1 = .ok (.istore_n 1, 1) := by decide +kernel
theorem dX0_weightOnBridge_2 : decode cX0_weightOnBridge 2 = .ok (.iconst 0, 1) := by decide +kernel
theorem dX0_weightOnBridge_3 : decode cX0_weightOnBridge 3 = .ok (.istore_n 2, 1) := by decide +kernel
theorem dX0_weightOnBridge_4 : decode cX0_weightOnBridge 4 = .ok (.iload_n 2, 1) := by decide +kernel
theorem dX0_weightOnBridge_5 : decode cX0_weightOnBridge 5 = .ok (.aload_n 0, 1) := by decide +kernel
theorem dX0_weightOnBridge_6 : decode cX0_weightOnBridge 6 = .ok (.getfield 43, 3) := by decide +kernel
theorem dX0_weightOnBridge_9 : decode cX0_weightOnBridge 9 = .ok (.getfield 80, 3) := by decide +kernel
theorem dX0_weightOnBridge_12 : decode cX0_weightOnBridge 12 = .ok (.if_icmp .ge 33, 3) := by decide +kernel
theorem dX0_weightOnBridge_15 : decode cX0_weightOnBridge 15 = .ok (.aload_n 0, 1) := by decide +kernel
theorem dX0_weightOnBridge_16 : decode cX0_weightOnBridge 16 = .ok (.aload_n 0, 1) := by decide +kernel
theorem dX0_weightOnBridge_17 : decode cX0_weightOnBridge 17 = .ok (.getfield 43, 3) := by decide +kernel
theorem dX0_weightOnBridge_20 : decode cX0_weightOnBridge 20 = .ok (.iload_n 2, 1) := by decide +kernel
theorem dX0_weightOnBridge_21 : decode cX0_weightOnBridge 21 = .ok (.invokevirtual 83, 3) := by decide +kernel
theorem dX0_weightOnBridge_24 : decode cX0_weightOnBridge 24 = .ok (.invokevirtual 57, 3) := by decide +kernel
theorem dX0_weightOnBridge_27 : decode cX0_weightOnBridge 27 = .ok (.astore_n 3, 1) := by decide +kernel
theorem dX0_weightOnBridge_28 : decode cX0_weightOnBridge 28 = .ok (.aload_n 3, 1) := by decide +kernel
theorem dX0_weightOnBridge_29 : decode cX0_weightOnBridge 29 = .ok (.ifnull 10, 3) := by decide +kernel
theorem dX0_weightOnBridge_32 : decode cX0_weightOnBridge 32 = .ok (.iload_n 1, 1) := by decide +kernel
theorem dX0_weightOnBridge_33 : decode cX0_weightOnBridge 33 = .ok (.aload_n 3, 1) := by decide +kernel
theorem dX0_weightOnBridge_34 : decode cX0_weightOnBridge 34 = .ok (.getfield 87, 3) := by decide +kernel
theorem dX0_weightOnBridge_37 : decode cX0_weightOnBridge 37 = .ok (.iadd, 1) := by decide +kernel
theorem dX0_weightOnBridge_38 : decode cX0_weightOnBridge 38 = .ok (.istore_n 1, 1) := by decide +kernel
theorem dX0_weightOnBridge_39 : decode cX0_weightOnBridge 39 = .ok (.iinc 2 1, 3) := by decide +kernel
theorem dX0_weightOnBridge_42 : decode cX0_weightOnBridge 42 = .ok (.goto (-38), 3) := by decide +kernel
theorem dX0_weightOnBridge_45 : decode cX0_weightOnBridge 45 = .ok (.iload_n 1, 1) := by decide +kernel
theorem dX0_weightOnBridge_46 : decode cX0_weightOnBridge 46 = .ok (.ireturn, 1) := by decide +kernel
theorem dX0_meanOverTick_0 : decode cX0_meanOverTick 0 = .ok (.lconst 0, 1) := by decide +kernel
theorem dX0_meanOverTick_1 : decode cX0_meanOverTick 1 = .ok (.lstore_n 1, 1) := by decide +kernel
theorem dX0_meanOverTick_2 : decode cX0_meanOverTick 2 = .ok (.iconst 0, 1) := by decide +kernel
theorem dX0_meanOverTick_3 : decode cX0_meanOverTick 3 = .ok (.istore_n 3, 1) := by decide +kernel
theorem dX0_meanOverTick_4 : decode cX0_meanOverTick 4 = .ok (.iconst 0, 1) := by decide +kernel
theorem dX0_meanOverTick_5 : decode cX0_meanOverTick 5 = .ok (.istore 4, 2) := by decide +kernel
theorem dX0_meanOverTick_7 : decode cX0_meanOverTick 7 = .ok (.iload 4, 2) := by decide +kernel
theorem dX0_meanOverTick_9 : decode cX0_meanOverTick 9 = .ok (.aload_n 0, 1) := by decide +kernel
theorem dX0_meanOverTick_10 : decode cX0_meanOverTick 10 = .ok (.getfield 50, 3) := by decide +kernel
theorem dX0_meanOverTick_13 : decode cX0_meanOverTick 13 = .ok (.if_icmp .ge 43, 3) := by decide +kernel
theorem dX0_meanOverTick_16 : decode cX0_meanOverTick 16 = .ok (.aload_n 0, 1) := by decide +kernel
theorem dX0_meanOverTick_17 : decode cX0_meanOverTick 17 = .ok (.iload 4, 2) := by decide +kernel
theorem dX0_meanOverTick_19 : decode cX0_meanOverTick 19 = .ok (.invokevirtual 57, 3) := by decide +kernel
theorem dX0_meanOverTick_22 : decode cX0_meanOverTick 22 = .ok (.astore 5, 2) := by decide +kernel
theorem dX0_meanOverTick_24 : decode cX0_meanOverTick 24 = .ok (.aload 5, 2) := by decide +kernel
theorem dX0_meanOverTick_26 : decode cX0_meanOverTick 26 = .ok (.ifnull 24, 3) := by decide +kernel
theorem dX0_meanOverTick_29 : decode cX0_meanOverTick 29 = .ok (.aload 5, 2) := by decide +kernel
theorem dX0_meanOverTick_31 : decode cX0_meanOverTick 31 = .ok (.getfield 74, 3) := by decide +kernel
theorem dX0_meanOverTick_34 : decode cX0_meanOverTick 34 = .ok (.iconst 2, 1) := by decide +kernel
theorem dX0_meanOverTick_35 : decode cX0_meanOverTick 35 = .ok (.if_icmp .ne 15, 3) := by decide +kernel
theorem dX0_meanOverTick_38 : decode cX0_meanOverTick 38 = .ok (.lload_n 1, 1) := by decide +kernel
theorem dX0_meanOverTick_39 : decode cX0_meanOverTick 39 = .ok (.aload 5, 2) := by decide +kernel
theorem dX0_meanOverTick_41 : decode cX0_meanOverTick 41 = .ok (.getfield 90, 3) := by decide +kernel
theorem dX0_meanOverTick_44 : decode cX0_meanOverTick 44 = .ok (.i2l, 1) := by decide +kernel
theorem dX0_meanOverTick_45 : decode cX0_meanOverTick 45 = .ok (.ladd, 1) := by decide +kernel
theorem dX0_meanOverTick_46 : decode cX0_meanOverTick 46 = .ok (.lstore_n 1, 1) := by decide +kernel
theorem dX0_meanOverTick_47 : decode cX0_meanOverTick 47 = .ok (.iinc 3 1, 3) := by decide +kernel
theorem dX0_meanOverTick_50 : decode cX0_meanOverTick 50 = .ok (.iinc 4 1, 3) := by decide +kernel
theorem dX0_meanOverTick_53 : decode cX0_meanOverTick 53 = .ok (.goto (-46), 3) := by decide +kernel
theorem dX0_meanOverTick_56 : decode cX0_meanOverTick 56 = .ok (.iload_n 3, 1) := by decide +kernel
theorem dX0_meanOverTick_57 : decode cX0_meanOverTick 57 = .ok (.ifCond .ne 7, 3) := by decide +kernel
theorem dX0_meanOverTick_60 : decode cX0_meanOverTick 60 = .ok (.dconst 0, 1) := by decide +kernel
theorem dX0_meanOverTick_61 : decode cX0_meanOverTick 61 = .ok (.goto 8, 3) := by decide +kernel
theorem dX0_meanOverTick_64 : decode cX0_meanOverTick 64 = .ok (.lload_n 1, 1) := by decide +kernel
theorem dX0_meanOverTick_65 : decode cX0_meanOverTick 65 = .ok (.l2d, 1) := by decide +kernel
theorem dX0_meanOverTick_66 : decode cX0_meanOverTick 66 = .ok (.iload_n 3, 1) := by decide +kernel
theorem dX0_meanOverTick_67 : decode cX0_meanOverTick 67 = .ok (.i2d, 1) := by decide +kernel
theorem dX0_meanOverTick_68 : decode cX0_meanOverTick 68 = .ok (.ddiv, 1) := by decide +kernel
theorem dX0_meanOverTick_69 : decode cX0_meanOverTick 69 = .ok (.dreturn, 1) := by decide +kernel
theorem dX0_tellCart_0 : decode cX0_tellCart 0 = .ok (.iload_n 2, 1) := by decide +kernel
theorem dX0_tellCart_1 : decode cX0_tellCart 1 = .ok (.tableswitch 96 0 7 #[47, 52, 57, 62, 67, 72, 77, 83], 47) := by decide +kernel
theorem dX0_tellCart_48 : decode cX0_tellCart 48 = .ok (.aload_n 1, 1) := by decide +kernel
theorem dX0_tellCart_49 : decode cX0_tellCart 49 = .ok (.getfield 93, 3) := by decide +kernel
theorem dX0_tellCart_52 : decode cX0_tellCart 52 = .ok (.ireturn, 1) := by decide +kernel
theorem dX0_tellCart_53 : decode cX0_tellCart 53 = .ok (.aload_n 1, 1) := by decide +kernel
theorem dX0_tellCart_54 : decode cX0_tellCart 54 = .ok (.getfield 87, 3) := by decide +kernel
theorem dX0_tellCart_57 : decode cX0_tellCart 57 = .ok (.ireturn, 1) := by decide +kernel
theorem dX0_tellCart_58 : decode cX0_tellCart 58 = .ok (.aload_n 1, 1) := by decide +kernel
theorem dX0_tellCart_59 : decode cX0_tellCart 59 = .ok (.getfield 96, 3) := by decide +kernel
theorem dX0_tellCart_62 : decode cX0_tellCart 62 = .ok (.ireturn, 1) := by decide +kernel
theorem dX0_tellCart_63 : decode cX0_tellCart 63 = .ok (.aload_n 1, 1) := by decide +kernel
theorem dX0_tellCart_64 : decode cX0_tellCart 64 = .ok (.getfield 99, 3) := by decide +kernel
theorem dX0_tellCart_67 : decode cX0_tellCart 67 = .ok (.ireturn, 1) := by decide +kernel
theorem dX0_tellCart_68 : decode cX0_tellCart 68 = .ok (.aload_n 1, 1) := by decide +kernel
theorem dX0_tellCart_69 : decode cX0_tellCart 69 = .ok (.getfield 100, 3) := by decide +kernel
theorem dX0_tellCart_72 : decode cX0_tellCart 72 = .ok (.ireturn, 1) := by decide +kernel
theorem dX0_tellCart_73 : decode cX0_tellCart 73 = .ok (.aload_n 1, 1) := by decide +kernel
theorem dX0_tellCart_74 : decode cX0_tellCart 74 = .ok (.getfield 74, 3) := by decide +kernel
theorem dX0_tellCart_77 : decode cX0_tellCart 77 = .ok (.ireturn, 1) := by decide +kernel
theorem dX0_tellCart_78 : decode cX0_tellCart 78 = .ok (.aload_n 0, 1) := by decide +kernel
theorem dX0_tellCart_79 : decode cX0_tellCart 79 = .ok (.aload_n 1, 1) := by decide +kernel
theorem dX0_tellCart_80 : decode cX0_tellCart 80 = .ok (.invokevirtual 103, 3) := by decide +kernel
theorem dX0_tellCart_83 : decode cX0_tellCart 83 = .ok (.ireturn, 1) := by decide +kernel
theorem dX0_tellCart_84 : decode cX0_tellCart 84 = .ok (.aload_n 0, 1) := by decide +kernel
theorem dX0_tellCart_85 : decode cX0_tellCart 85 = .ok (.aload_n 1, 1) := by decide +kernel
theorem dX0_tellCart_86 : decode cX0_tellCart 86 = .ok (.getfield 93, 3) := by decide +kernel
theorem dX0_tellCart_89 : decode cX0_tellCart 89 = .ok (.aload_n 1, 1) := by decide +kernel
theorem dX0_tellCart_90 : decode cX0_tellCart 90 = .ok (.getfield 87, 3) := by decide +kernel
theorem dX0_tellCart_93 : decode cX0_tellCart 93 = .ok (.invokevirtual 107, 3) := by decide +kernel
theorem dX0_tellCart_96 : decode cX0_tellCart 96 = .ok (.ireturn, 1) := by decide +kernel
theorem dX0_tellCart_97 : decode cX0_tellCart 97 = .ok (.aload_n 1, 1) := by decide +kernel
theorem dX0_tellCart_98 : decode cX0_tellCart 98 = .ok (.getfield 90, 3) := by decide +kernel
theorem dX0_tellCart_101 : decode cX0_tellCart 101 = .ok (.ireturn, 1) := by decide +kernel
theorem dX0_mixedInto_0 : decode cX0_mixedInto 0 = .ok (.aload_n 0, 1) := by decide +kernel
theorem dX0_mixedInto_1 : decode cX0_mixedInto 1 = .ok (.getfield 37, 3) := by decide +kernel
theorem dX0_mixedInto_4 : decode cX0_mixedInto 4 = .ok (.aload_n 0, 1) := by decide +kernel
theorem dX0_mixedInto_5 : decode cX0_mixedInto 5 = .ok (.getfield 33, 3) := by decide +kernel
theorem dX0_mixedInto_8 : decode cX0_mixedInto 8 = .ok (.lload_n 1, 1) := by decide +kernel
theorem dX0_mixedInto_9 : decode cX0_mixedInto 9 = .ok (.invokevirtual 111, 3) := by decide +kernel
theorem dX0_mixedInto_12 : decode cX0_mixedInto 12 = .ok (.invokevirtual 111, 3) := by decide +kernel
theorem dX0_mixedInto_15 : decode cX0_mixedInto 15 = .ok (.lstore_n 3, 1) := by decide +kernel
theorem dX0_mixedInto_16 : decode cX0_mixedInto 16 = .ok (.iconst 0, 1) := by decide +kernel
theorem dX0_mixedInto_17 : decode cX0_mixedInto 17 = .ok (.istore 5, 2) := by decide +kernel
theorem dX0_mixedInto_19 : decode cX0_mixedInto 19 = .ok (.iload 5, 2) := by decide +kernel
theorem dX0_mixedInto_21 : decode cX0_mixedInto 21 = .ok (.aload_n 0, 1) := by decide +kernel
theorem dX0_mixedInto_22 : decode cX0_mixedInto 22 = .ok (.getfield 50, 3) := by decide +kernel
theorem dX0_mixedInto_25 : decode cX0_mixedInto 25 = .ok (.if_icmp .ge 51, 3) := by decide +kernel
theorem dX0_mixedInto_28 : decode cX0_mixedInto 28 = .ok (.aload_n 0, 1) := by decide +kernel
theorem dX0_mixedInto_29 : decode cX0_mixedInto 29 = .ok (.iload 5, 2) := by decide +kernel
theorem dX0_mixedInto_31 : decode cX0_mixedInto 31 = .ok (.invokevirtual 57, 3) := by decide +kernel
theorem dX0_mixedInto_34 : decode cX0_mixedInto 34 = .ok (.astore 6, 2) := by decide +kernel
theorem dX0_mixedInto_36 : decode cX0_mixedInto 36 = .ok (.iconst 0, 1) := by decide +kernel
theorem dX0_mixedInto_37 : decode cX0_mixedInto 37 = .ok (.istore 7, 2) := by decide +kernel
theorem dX0_mixedInto_39 : decode cX0_mixedInto 39 = .ok (.aload 6, 2) := by decide +kernel
theorem dX0_mixedInto_41 : decode cX0_mixedInto 41 = .ok (.ifnull 29, 3) := by decide +kernel
theorem dX0_mixedInto_44 : decode cX0_mixedInto 44 = .ok (.iload 7, 2) := by decide +kernel
theorem dX0_mixedInto_46 : decode cX0_mixedInto 46 = .ok (.bipush 9, 2) := by decide +kernel
theorem dX0_mixedInto_48 : decode cX0_mixedInto 48 = .ok (.if_icmp .ge 22, 3) := by decide +kernel
theorem dX0_mixedInto_51 : decode cX0_mixedInto 51 = .ok (.lload_n 3, 1) := by decide +kernel
theorem dX0_mixedInto_52 : decode cX0_mixedInto 52 = .ok (.aload_n 0, 1) := by decide +kernel
theorem dX0_mixedInto_53 : decode cX0_mixedInto 53 = .ok (.aload 6, 2) := by decide +kernel
theorem dX0_mixedInto_55 : decode cX0_mixedInto 55 = .ok (.iload 7, 2) := by decide +kernel
theorem dX0_mixedInto_57 : decode cX0_mixedInto 57 = .ok (.invokevirtual 115, 3) := by decide +kernel
theorem dX0_mixedInto_60 : decode cX0_mixedInto 60 = .ok (.invokestatic 119, 3) := by decide +kernel
theorem dX0_mixedInto_63 : decode cX0_mixedInto 63 = .ok (.lstore_n 3, 1) := by decide +kernel
theorem dX0_mixedInto_64 : decode cX0_mixedInto 64 = .ok (.iinc 7 1, 3) := by decide +kernel
theorem dX0_mixedInto_67 : decode cX0_mixedInto 67 = .ok (.goto (-28), 3) := by decide +kernel
theorem dX0_mixedInto_70 : decode cX0_mixedInto 70 = .ok (.iinc 5 1, 3) := by decide +kernel
theorem dX0_mixedInto_73 : decode cX0_mixedInto 73 = .ok (.goto (-54), 3) := by decide +kernel
theorem dX0_mixedInto_76 : decode cX0_mixedInto 76 = .ok (.lload_n 3, 1) := by decide +kernel
theorem dX0_mixedInto_77 : decode cX0_mixedInto 77 = .ok (.lreturn, 1) := by decide +kernel
theorem dX0_copyFrom_0 : decode cX0_copyFrom 0 = .ok (.aload_n 0, 1) := by decide +kernel
theorem dX0_copyFrom_1 : decode cX0_copyFrom 1 = .ok (.aload_n 1, 1) := by decide +kernel
theorem dX0_copyFrom_2 : decode cX0_copyFrom 2 = .ok (.getfield 71, 3) := by decide +kernel
theorem dX0_copyFrom_5 : decode cX0_copyFrom 5 = .ok (.putfield 71, 3) := by decide +kernel
theorem dX0_copyFrom_8 : decode cX0_copyFrom 8 = .ok (.aload_n 0, 1) := by decide +kernel
theorem dX0_copyFrom_9 : decode cX0_copyFrom 9 = .ok (.aload_n 1, 1) := by decide +kernel
theorem dX0_copyFrom_10 : decode cX0_copyFrom 10 = .ok (.getfield 61, 3) := by decide +kernel
theorem dX0_copyFrom_13 : decode cX0_copyFrom 13 = .ok (.putfield 61, 3) := by decide +kernel
theorem dX0_copyFrom_16 : decode cX0_copyFrom 16 = .ok (.aload_n 0, 1) := by decide +kernel
theorem dX0_copyFrom_17 : decode cX0_copyFrom 17 = .ok (.aload_n 1, 1) := by decide +kernel
theorem dX0_copyFrom_18 : decode cX0_copyFrom 18 = .ok (.getfield 9, 3) := by decide +kernel
theorem dX0_copyFrom_21 : decode cX0_copyFrom 21 = .ok (.putfield 9, 3) := by decide +kernel
theorem dX0_copyFrom_24 : decode cX0_copyFrom 24 = .ok (.aload_n 0, 1) := by decide +kernel
theorem dX0_copyFrom_25 : decode cX0_copyFrom 25 = .ok (.aload_n 1, 1) := by decide +kernel
theorem dX0_copyFrom_26 : decode cX0_copyFrom 26 = .ok (.getfield 15, 3) := by decide +kernel
theorem dX0_copyFrom_29 : decode cX0_copyFrom 29 = .ok (.putfield 15, 3) := by decide +kernel
theorem dX0_copyFrom_32 : decode cX0_copyFrom 32 = .ok (.aload_n 0, 1) := by decide +kernel
theorem dX0_copyFrom_33 : decode cX0_copyFrom 33 = .ok (.aload_n 1, 1) := by decide +kernel
theorem dX0_copyFrom_34 : decode cX0_copyFrom 34 = .ok (.getfield 18, 3) := by decide +kernel
theorem dX0_copyFrom_37 : decode cX0_copyFrom 37 = .ok (.putfield 18, 3) := by decide +kernel
theorem dX0_copyFrom_40 : decode cX0_copyFrom 40 = .ok (.aload_n 0, 1) := by decide +kernel
theorem dX0_copyFrom_41 : decode cX0_copyFrom 41 = .ok (.aload_n 1, 1) := by decide +kernel
theorem dX0_copyFrom_42 : decode cX0_copyFrom 42 = .ok (.getfield 21, 3) := by decide +kernel
theorem dX0_copyFrom_45 : decode cX0_copyFrom 45 = .ok (.putfield 21, 3) := by decide +kernel
theorem dX0_copyFrom_48 : decode cX0_copyFrom 48 = .ok (.aload_n 0, 1) := by decide +kernel
theorem dX0_copyFrom_49 : decode cX0_copyFrom 49 = .ok (.aload_n 1, 1) := by decide +kernel
theorem dX0_copyFrom_50 : decode cX0_copyFrom 50 = .ok (.getfield 50, 3) := by decide +kernel
theorem dX0_copyFrom_53 : decode cX0_copyFrom 53 = .ok (.putfield 50, 3) := by decide +kernel
theorem dX0_copyFrom_56 : decode cX0_copyFrom 56 = .ok (.iconst 0, 1) := by decide +kernel
theorem dX0_copyFrom_57 : decode cX0_copyFrom 57 = .ok (.istore_n 2, 1) := by decide +kernel
theorem dX0_copyFrom_58 : decode cX0_copyFrom 58 = .ok (.iload_n 2, 1) := by decide +kernel
theorem dX0_copyFrom_59 : decode cX0_copyFrom 59 = .ok (.aload_n 0, 1) := by decide +kernel
theorem dX0_copyFrom_60 : decode cX0_copyFrom 60 = .ok (.getfield 50, 3) := by decide +kernel
theorem dX0_copyFrom_63 : decode cX0_copyFrom 63 = .ok (.if_icmp .ge 37, 3) := by decide +kernel
theorem dX0_copyFrom_66 : decode cX0_copyFrom 66 = .ok (.aload_n 0, 1) := by decide +kernel
theorem dX0_copyFrom_67 : decode cX0_copyFrom 67 = .ok (.iload_n 2, 1) := by decide +kernel
theorem dX0_copyFrom_68 : decode cX0_copyFrom 68 = .ok (.invokevirtual 57, 3) := by decide +kernel
theorem dX0_copyFrom_71 : decode cX0_copyFrom 71 = .ok (.astore_n 3, 1) := by decide +kernel
theorem dX0_copyFrom_72 : decode cX0_copyFrom 72 = .ok (.aload_n 1, 1) := by decide +kernel
theorem dX0_copyFrom_73 : decode cX0_copyFrom 73 = .ok (.iload_n 2, 1) := by decide +kernel
theorem dX0_copyFrom_74 : decode cX0_copyFrom 74 = .ok (.invokevirtual 57, 3) := by decide +kernel
theorem dX0_copyFrom_77 : decode cX0_copyFrom 77 = .ok (.astore 4, 2) := by decide +kernel
theorem dX0_copyFrom_79 : decode cX0_copyFrom 79 = .ok (.aload_n 3, 1) := by decide +kernel
theorem dX0_copyFrom_80 : decode cX0_copyFrom 80 = .ok (.ifnull 14, 3) := by decide +kernel
theorem dX0_copyFrom_83 : decode cX0_copyFrom 83 = .ok (.aload 4, 2) := by decide +kernel
theorem dX0_copyFrom_85 : decode cX0_copyFrom 85 = .ok (.ifnull 9, 3) := by decide +kernel
theorem dX0_copyFrom_88 : decode cX0_copyFrom 88 = .ok (.aload_n 3, 1) := by decide +kernel
theorem dX0_copyFrom_89 : decode cX0_copyFrom 89 = .ok (.aload 4, 2) := by decide +kernel
theorem dX0_copyFrom_91 : decode cX0_copyFrom 91 = .ok (.invokevirtual 123, 3) := by decide +kernel
theorem dX0_copyFrom_94 : decode cX0_copyFrom 94 = .ok (.iinc 2 1, 3) := by decide +kernel
theorem dX0_copyFrom_97 : decode cX0_copyFrom 97 = .ok (.goto (-39), 3) := by decide +kernel
theorem dX0_copyFrom_100 : decode cX0_copyFrom 100 = .ok (.aload_n 0, 1) := by decide +kernel
theorem dX0_copyFrom_101 : decode cX0_copyFrom 101 = .ok (.getfield 33, 3) := by decide +kernel
theorem dX0_copyFrom_104 : decode cX0_copyFrom 104 = .ok (.aload_n 1, 1) := by decide +kernel
theorem dX0_copyFrom_105 : decode cX0_copyFrom 105 = .ok (.getfield 33, 3) := by decide +kernel
theorem dX0_copyFrom_108 : decode cX0_copyFrom 108 = .ok (.invokevirtual 127, 3) := by decide +kernel
theorem dX0_copyFrom_111 : decode cX0_copyFrom 111 = .ok (.aload_n 0, 1) := by decide +kernel
theorem dX0_copyFrom_112 : decode cX0_copyFrom 112 = .ok (.getfield 37, 3) := by decide +kernel
theorem dX0_copyFrom_115 : decode cX0_copyFrom 115 = .ok (.aload_n 1, 1) := by decide +kernel
theorem dX0_copyFrom_116 : decode cX0_copyFrom 116 = .ok (.getfield 37, 3) := by decide +kernel
theorem dX0_copyFrom_119 : decode cX0_copyFrom 119 = .ok (.invokevirtual 127, 3) := by decide +kernel
theorem dX0_copyFrom_122 : decode cX0_copyFrom 122 = .ok (.aload_n 0, 1) := by decide +kernel
theorem dX0_copyFrom_123 : decode cX0_copyFrom 123 = .ok (.getfield 43, 3) := by decide +kernel
theorem dX0_copyFrom_126 : decode cX0_copyFrom 126 = .ok (.aload_n 1, 1) := by decide +kernel
theorem dX0_copyFrom_127 : decode cX0_copyFrom 127 = .ok (.getfield 43, 3) := by decide +kernel
theorem dX0_copyFrom_130 : decode cX0_copyFrom 130 = .ok (.invokevirtual 130, 3) := by decide +kernel
theorem dX0_copyFrom_133 : decode cX0_copyFrom 133 = .ok (.return_, 1) := by decide +kernel
theorem dX0_placeOf_0 : decode cX0_placeOf 0 = .ok (.aload_n 1, 1) := by decide +kernel
theorem dX0_placeOf_1 : decode cX0_placeOf 1 = .ok (.getfield 74, 3) := by decide +kernel
theorem dX0_placeOf_4 : decode cX0_placeOf 4 = .ok (.iconst 1, 1) := by decide +kernel
theorem dX0_placeOf_5 : decode cX0_placeOf 5 = .ok (.if_icmp .eq 5, 3) := by decide +kernel
theorem dX0_placeOf_8 : decode cX0_placeOf 8 = .ok (.iconst (-1), 1) := by decide +kernel
theorem dX0_placeOf_9 : decode cX0_placeOf 9 = .ok (.ireturn, 1) := by decide +kernel
theorem dX0_placeOf_10 : decode cX0_placeOf 10 = .ok (.aload_n 1, 1) := by decide +kernel
theorem dX0_placeOf_11 : decode cX0_placeOf 11 = .ok (.getfield 100, 3) := by decide +kernel
theorem dX0_placeOf_14 : decode cX0_placeOf 14 = .ok (.ifCond .ne 10, 3) := by decide +kernel
theorem dX0_placeOf_17 : decode cX0_placeOf 17 = .ok (.aload_n 1, 1) := by decide +kernel
theorem dX0_placeOf_18 : decode cX0_placeOf 18 = .ok (.getfield 133, 3) := by decide +kernel
theorem dX0_placeOf_21 : decode cX0_placeOf 21 = .ok (.goto 14, 3) := by decide +kernel
theorem dX0_placeOf_24 : decode cX0_placeOf 24 = .ok (.aload_n 0, 1) := by decide +kernel
theorem dX0_placeOf_25 : decode cX0_placeOf 25 = .ok (.getfield 9, 3) := by decide +kernel
theorem dX0_placeOf_28 : decode cX0_placeOf 28 = .ok (.iconst 1, 1) := by decide +kernel
theorem dX0_placeOf_29 : decode cX0_placeOf 29 = .ok (.isub, 1) := by decide +kernel
theorem dX0_placeOf_30 : decode cX0_placeOf 30 = .ok (.aload_n 1, 1) := by decide +kernel
theorem dX0_placeOf_31 : decode cX0_placeOf 31 = .ok (.getfield 133, 3) := by decide +kernel
theorem dX0_placeOf_34 : decode cX0_placeOf 34 = .ok (.isub, 1) := by decide +kernel
theorem dX0_placeOf_35 : decode cX0_placeOf 35 = .ok (.ireturn, 1) := by decide +kernel
theorem dX0_tollFor_0 : decode cX0_tollFor 0 = .ok (.iload_n 1, 1) := by decide +kernel
theorem dX0_tollFor_1 : decode cX0_tollFor 1 = .ok (.aload_n 0, 1) := by decide +kernel
theorem dX0_tollFor_2 : decode cX0_tollFor 2 = .ok (.getfield 18, 3) := by decide +kernel
theorem dX0_tollFor_5 : decode cX0_tollFor 5 = .ok (.imul, 1) := by decide +kernel
theorem dX0_tollFor_6 : decode cX0_tollFor 6 = .ok (.iload_n 2, 1) := by decide +kernel
theorem dX0_tollFor_7 : decode cX0_tollFor 7 = .ok (.bipush 10, 2) := by decide +kernel
theorem dX0_tollFor_9 : decode cX0_tollFor 9 = .ok (.idiv, 1) := by decide +kernel
theorem dX0_tollFor_10 : decode cX0_tollFor 10 = .ok (.aload_n 0, 1) := by decide +kernel
theorem dX0_tollFor_11 : decode cX0_tollFor 11 = .ok (.getfield 21, 3) := by decide +kernel
theorem dX0_tollFor_14 : decode cX0_tollFor 14 = .ok (.imul, 1) := by decide +kernel
theorem dX0_tollFor_15 : decode cX0_tollFor 15 = .ok (.iadd, 1) := by decide +kernel
theorem dX0_tollFor_16 : decode cX0_tollFor 16 = .ok (.ireturn, 1) := by decide +kernel
theorem dX0_move_0 : decode cX0_move 0 = .ok (.aload_n 0, 1) := by decide +kernel
theorem dX0_move_1 : decode cX0_move 1 = .ok (.aload_n 0, 1) := by decide +kernel
theorem dX0_move_2 : decode cX0_move 2 = .ok (.getfield 43, 3) := by decide +kernel
theorem dX0_move_5 : decode cX0_move 5 = .ok (.iconst 0, 1) := by decide +kernel
theorem dX0_move_6 : decode cX0_move 6 = .ok (.invokevirtual 83, 3) := by decide +kernel
theorem dX0_move_9 : decode cX0_move 9 = .ok (.invokevirtual 57, 3) := by decide +kernel
theorem dX0_move_12 : decode cX0_move 12 = .ok (.astore_n 1, 1) := by decide +kernel
theorem dX0_move_13 : decode cX0_move 13 = .ok (.aload_n 1, 1) := by decide +kernel
theorem dX0_move_14 : decode cX0_move 14 = .ok (.ifnonnull 5, 3) := by decide +kernel
theorem dX0_move_17 : decode cX0_move 17 = .ok (.iconst 0, 1) := by decide +kernel
theorem dX0_move_18 : decode cX0_move 18 = .ok (.ireturn, 1) := by decide +kernel
theorem dX0_move_19 : decode cX0_move 19 = .ok (.aload_n 1, 1) := by decide +kernel
theorem dX0_move_20 : decode cX0_move 20 = .ok (.getfield 100, 3) := by decide +kernel
theorem dX0_move_23 : decode cX0_move 23 = .ok (.aload_n 0, 1) := by decide +kernel
theorem dX0_move_24 : decode cX0_move 24 = .ok (.getfield 61, 3) := by decide +kernel
theorem dX0_move_27 : decode cX0_move 27 = .ok (.if_icmp .ne 8, 3) := by decide +kernel
theorem dX0_move_30 : decode cX0_move 30 = .ok (.aload_n 0, 1) := by decide +kernel
theorem dX0_move_31 : decode cX0_move 31 = .ok (.invokevirtual 136, 3) := by decide +kernel
theorem dX0_move_34 : decode cX0_move 34 = .ok (.ireturn, 1) := by decide +kernel
theorem dX0_move_35 : decode cX0_move 35 = .ok (.aload_n 0, 1) := by decide +kernel
theorem dX0_move_36 : decode cX0_move 36 = .ok (.invokevirtual 139, 3) := by decide +kernel
theorem dX0_move_39 : decode cX0_move 39 = .ok (.iconst 0, 1) := by decide +kernel
theorem dX0_move_40 : decode cX0_move 40 = .ok (.ireturn, 1) := by decide +kernel
theorem dX0_goOn_0 : decode cX0_goOn 0 = .ok (.iconst 0, 1) := by decide +kernel
theorem dX0_goOn_1 : decode cX0_goOn 1 = .ok (.istore_n 1, 1) := by decide +kernel
theorem dX0_goOn_2 : decode cX0_goOn 2 = .ok (.aload_n 0, 1) := by decide +kernel
theorem dX0_goOn_3 : decode cX0_goOn 3 = .ok (.getfield 9, 3) := by decide +kernel
theorem dX0_goOn_6 : decode cX0_goOn 6 = .ok (.iconst 3, 1) := by decide +kernel
theorem dX0_goOn_7 : decode cX0_goOn 7 = .ok (.iadd, 1) := by decide +kernel
theorem dX0_goOn_8 : decode cX0_goOn 8 = .ok (.istore_n 2, 1) := by decide +kernel
theorem dX0_goOn_9 : decode cX0_goOn 9 = .ok (.iconst 0, 1) := by decide +kernel
theorem dX0_goOn_10 : decode cX0_goOn 10 = .ok (.istore_n 3, 1) := by decide +kernel
theorem dX0_goOn_11 : decode cX0_goOn 11 = .ok (.iload_n 3, 1) := by decide +kernel
theorem dX0_goOn_12 : decode cX0_goOn 12 = .ok (.aload_n 0, 1) := by decide +kernel
theorem dX0_goOn_13 : decode cX0_goOn 13 = .ok (.getfield 43, 3) := by decide +kernel
theorem dX0_goOn_16 : decode cX0_goOn 16 = .ok (.getfield 80, 3) := by decide +kernel
theorem dX0_goOn_19 : decode cX0_goOn 19 = .ok (.if_icmp .ge 90, 3) := by decide +kernel
theorem dX0_goOn_22 : decode cX0_goOn 22 = .ok (.aload_n 0, 1) := by decide +kernel
theorem dX0_goOn_23 : decode cX0_goOn 23 = .ok (.aload_n 0, 1) := by decide +kernel
theorem dX0_goOn_24 : decode cX0_goOn 24 = .ok (.getfield 43, 3) := by decide +kernel
theorem dX0_goOn_27 : decode cX0_goOn 27 = .ok (.iload_n 3, 1) := by decide +kernel
theorem dX0_goOn_28 : decode cX0_goOn 28 = .ok (.invokevirtual 83, 3) := by decide +kernel
theorem dX0_goOn_31 : decode cX0_goOn 31 = .ok (.invokevirtual 57, 3) := by decide +kernel
theorem dX0_goOn_34 : decode cX0_goOn 34 = .ok (.astore 4, 2) := by decide +kernel
theorem dX0_goOn_36 : decode cX0_goOn 36 = .ok (.aload 4, 2) := by decide +kernel
theorem dX0_goOn_38 : decode cX0_goOn 38 = .ok (.ifnonnull 6, 3) := by decide +kernel
theorem dX0_goOn_41 : decode cX0_goOn 41 = .ok (.goto 68, 3) := by decide +kernel
theorem dX0_goOn_44 : decode cX0_goOn 44 = .ok (.aload 4, 2) := by decide +kernel
theorem dX0_goOn_46 : decode cX0_goOn 46 = .ok (.getfield 133, 3) := by decide +kernel
theorem dX0_goOn_49 : decode cX0_goOn 49 = .ok (.aload 4, 2) := by decide +kernel
theorem dX0_goOn_51 : decode cX0_goOn 51 = .ok (.getfield 96, 3) := by decide +kernel
theorem dX0_goOn_54 : decode cX0_goOn 54 = .ok (.iadd, 1) := by decide +kernel
theorem dX0_goOn_55 : decode cX0_goOn 55 = .ok (.iload_n 2, 1) := by decide +kernel
theorem dX0_goOn_56 : decode cX0_goOn 56 = .ok (.invokestatic 142, 3) := by decide +kernel
theorem dX0_goOn_59 : decode cX0_goOn 59 = .ok (.istore 5, 2) := by decide +kernel
theorem dX0_goOn_61 : decode cX0_goOn 61 = .ok (.iload 5, 2) := by decide +kernel
theorem dX0_goOn_63 : decode cX0_goOn 63 = .ok (.aload_n 0, 1) := by decide +kernel
theorem dX0_goOn_64 : decode cX0_goOn 64 = .ok (.getfield 9, 3) := by decide +kernel
theorem dX0_goOn_67 : decode cX0_goOn 67 = .ok (.if_icmp .ge 18, 3) := by decide +kernel
theorem dX0_goOn_70 : decode cX0_goOn 70 = .ok (.aload 4, 2) := by decide +kernel
theorem dX0_goOn_72 : decode cX0_goOn 72 = .ok (.iload 5, 2) := by decide +kernel
theorem dX0_goOn_74 : decode cX0_goOn 74 = .ok (.putfield 133, 3) := by decide +kernel
theorem dX0_goOn_77 : decode cX0_goOn 77 = .ok (.iload 5, 2) := by decide +kernel
theorem dX0_goOn_79 : decode cX0_goOn 79 = .ok (.iconst 1, 1) := by decide +kernel
theorem dX0_goOn_80 : decode cX0_goOn 80 = .ok (.isub, 1) := by decide +kernel
theorem dX0_goOn_81 : decode cX0_goOn 81 = .ok (.istore_n 2, 1) := by decide +kernel
theorem dX0_goOn_82 : decode cX0_goOn 82 = .ok (.goto 21, 3) := by decide +kernel
theorem dX0_goOn_85 : decode cX0_goOn 85 = .ok (.aload 4, 2) := by decide +kernel
theorem dX0_goOn_87 : decode cX0_goOn 87 = .ok (.iconst 2, 1) := by decide +kernel
theorem dX0_goOn_88 : decode cX0_goOn 88 = .ok (.putfield 74, 3) := by decide +kernel
theorem dX0_goOn_91 : decode cX0_goOn 91 = .ok (.aload 4, 2) := by decide +kernel
theorem dX0_goOn_93 : decode cX0_goOn 93 = .ok (.aload_n 0, 1) := by decide +kernel
theorem dX0_goOn_94 : decode cX0_goOn 94 = .ok (.getfield 71, 3) := by decide +kernel
theorem dX0_goOn_97 : decode cX0_goOn 97 = .ok (.putfield 90, 3) := by decide +kernel
theorem dX0_goOn_100 : decode cX0_goOn 100 = .ok (.iinc 1 1, 3) := by decide +kernel
theorem dX0_goOn_103 : decode cX0_goOn 103 = .ok (.iinc 3 1, 3) := by decide +kernel
theorem dX0_goOn_106 : decode cX0_goOn 106 = .ok (.goto (-95), 3) := by decide +kernel
theorem dX0_goOn_109 : decode cX0_goOn 109 = .ok (.iconst 0, 1) := by decide +kernel
theorem dX0_goOn_110 : decode cX0_goOn 110 = .ok (.istore_n 3, 1) := by decide +kernel
theorem dX0_goOn_111 : decode cX0_goOn 111 = .ok (.iload_n 3, 1) := by decide +kernel
theorem dX0_goOn_112 : decode cX0_goOn 112 = .ok (.iload_n 1, 1) := by decide +kernel
theorem dX0_goOn_113 : decode cX0_goOn 113 = .ok (.if_icmp .ge 16, 3) := by decide +kernel
theorem dX0_goOn_116 : decode cX0_goOn 116 = .ok (.aload_n 0, 1) := by decide +kernel
theorem dX0_goOn_117 : decode cX0_goOn 117 = .ok (.getfield 43, 3) := by decide +kernel
theorem dX0_goOn_120 : decode cX0_goOn 120 = .ok (.invokevirtual 147, 3) := by decide +kernel
theorem dX0_goOn_123 : decode cX0_goOn 123 = .ok (.iinc 3 1, 3) := by decide +kernel
theorem dX0_goOn_126 : decode cX0_goOn 126 = .ok (.goto (-15), 3) := by decide +kernel
theorem dX0_goOn_129 : decode cX0_goOn 129 = .ok (.iload_n 1, 1) := by decide +kernel
theorem dX0_goOn_130 : decode cX0_goOn 130 = .ok (.ireturn, 1) := by decide +kernel
theorem dX0_goBack_0 : decode cX0_goBack 0 = .ok (.iconst (-1), 1) := by decide +kernel
theorem dX0_goBack_1 : decode cX0_goBack 1 = .ok (.istore_n 1, 1) := by decide +kernel
theorem dX0_goBack_2 : decode cX0_goBack 2 = .ok (.aload_n 0, 1) := by decide +kernel
theorem dX0_goBack_3 : decode cX0_goBack 3 = .ok (.getfield 43, 3) := by decide +kernel
theorem dX0_goBack_6 : decode cX0_goBack 6 = .ok (.getfield 80, 3) := by decide +kernel
theorem dX0_goBack_9 : decode cX0_goBack 9 = .ok (.iconst 1, 1) := by decide +kernel
theorem dX0_goBack_10 : decode cX0_goBack 10 = .ok (.isub, 1) := by decide +kernel
theorem dX0_goBack_11 : decode cX0_goBack 11 = .ok (.istore_n 2, 1) := by decide +kernel
theorem dX0_goBack_12 : decode cX0_goBack 12 = .ok (.iload_n 2, 1) := by decide +kernel
theorem dX0_goBack_13 : decode cX0_goBack 13 = .ok (.ifCond .lt 90, 3) := by decide +kernel
theorem dX0_goBack_16 : decode cX0_goBack 16 = .ok (.aload_n 0, 1) := by decide +kernel
theorem dX0_goBack_17 : decode cX0_goBack 17 = .ok (.aload_n 0, 1) := by decide +kernel
theorem dX0_goBack_18 : decode cX0_goBack 18 = .ok (.getfield 43, 3) := by decide +kernel
theorem dX0_goBack_21 : decode cX0_goBack 21 = .ok (.iload_n 2, 1) := by decide +kernel
theorem dX0_goBack_22 : decode cX0_goBack 22 = .ok (.invokevirtual 83, 3) := by decide +kernel
theorem dX0_goBack_25 : decode cX0_goBack 25 = .ok (.invokevirtual 57, 3) := by decide +kernel
theorem dX0_goBack_28 : decode cX0_goBack 28 = .ok (.astore_n 3, 1) := by decide +kernel
theorem dX0_goBack_29 : decode cX0_goBack 29 = .ok (.aload_n 3, 1) := by decide +kernel
theorem dX0_goBack_30 : decode cX0_goBack 30 = .ok (.ifnonnull 6, 3) := by decide +kernel
theorem dX0_goBack_33 : decode cX0_goBack 33 = .ok (.goto 70, 3) := by decide +kernel
theorem dX0_goBack_36 : decode cX0_goBack 36 = .ok (.aload_n 3, 1) := by decide +kernel
theorem dX0_goBack_37 : decode cX0_goBack 37 = .ok (.getfield 133, 3) := by decide +kernel
theorem dX0_goBack_40 : decode cX0_goBack 40 = .ok (.iconst 1, 1) := by decide +kernel
theorem dX0_goBack_41 : decode cX0_goBack 41 = .ok (.isub, 1) := by decide +kernel
theorem dX0_goBack_42 : decode cX0_goBack 42 = .ok (.iload_n 1, 1) := by decide +kernel
theorem dX0_goBack_43 : decode cX0_goBack 43 = .ok (.invokestatic 150, 3) := by decide +kernel
theorem dX0_goBack_46 : decode cX0_goBack 46 = .ok (.istore 4, 2) := by decide +kernel
theorem dX0_goBack_48 : decode cX0_goBack 48 = .ok (.iload 4, 2) := by decide +kernel
theorem dX0_goBack_50 : decode cX0_goBack 50 = .ok (.ifCond .lt 17, 3) := by decide +kernel
theorem dX0_goBack_53 : decode cX0_goBack 53 = .ok (.aload_n 3, 1) := by decide +kernel
theorem dX0_goBack_54 : decode cX0_goBack 54 = .ok (.iload 4, 2) := by decide +kernel
theorem dX0_goBack_56 : decode cX0_goBack 56 = .ok (.putfield 133, 3) := by decide +kernel
theorem dX0_goBack_59 : decode cX0_goBack 59 = .ok (.iload 4, 2) := by decide +kernel
theorem dX0_goBack_61 : decode cX0_goBack 61 = .ok (.iconst 1, 1) := by decide +kernel
theorem dX0_goBack_62 : decode cX0_goBack 62 = .ok (.iadd, 1) := by decide +kernel
theorem dX0_goBack_63 : decode cX0_goBack 63 = .ok (.istore_n 1, 1) := by decide +kernel
theorem dX0_goBack_64 : decode cX0_goBack 64 = .ok (.goto 33, 3) := by decide +kernel
theorem dX0_goBack_67 : decode cX0_goBack 67 = .ok (.aload_n 3, 1) := by decide +kernel
theorem dX0_goBack_68 : decode cX0_goBack 68 = .ok (.iconst 0, 1) := by decide +kernel
theorem dX0_goBack_69 : decode cX0_goBack 69 = .ok (.putfield 74, 3) := by decide +kernel
theorem dX0_goBack_72 : decode cX0_goBack 72 = .ok (.aload_n 0, 1) := by decide +kernel
theorem dX0_goBack_73 : decode cX0_goBack 73 = .ok (.aload_n 3, 1) := by decide +kernel
theorem dX0_goBack_74 : decode cX0_goBack 74 = .ok (.getfield 100, 3) := by decide +kernel
theorem dX0_goBack_77 : decode cX0_goBack 77 = .ok (.invokevirtual 153, 3) := by decide +kernel
theorem dX0_goBack_80 : decode cX0_goBack 80 = .ok (.getfield 157, 3) := by decide +kernel
theorem dX0_goBack_83 : decode cX0_goBack 83 = .ok (.aload_n 3, 1) := by decide +kernel
theorem dX0_goBack_84 : decode cX0_goBack 84 = .ok (.getfield 160, 3) := by decide +kernel
theorem dX0_goBack_87 : decode cX0_goBack 87 = .ok (.invokevirtual 163, 3) := by decide +kernel
theorem dX0_goBack_90 : decode cX0_goBack 90 = .ok (.aload_n 0, 1) := by decide +kernel
theorem dX0_goBack_91 : decode cX0_goBack 91 = .ok (.getfield 43, 3) := by decide +kernel
theorem dX0_goBack_94 : decode cX0_goBack 94 = .ok (.invokevirtual 166, 3) := by decide +kernel
theorem dX0_goBack_97 : decode cX0_goBack 97 = .ok (.iinc 2 (-1), 3) := by decide +kernel
theorem dX0_goBack_100 : decode cX0_goBack 100 = .ok (.goto (-88), 3) := by decide +kernel
theorem dX0_goBack_103 : decode cX0_goBack 103 = .ok (.return_, 1) := by decide +kernel
theorem dX0_comeOn_0 : decode cX0_comeOn 0 = .ok (.aload_n 0, 1) := by decide +kernel
theorem dX0_comeOn_1 : decode cX0_comeOn 1 = .ok (.aload_n 0, 1) := by decide +kernel
theorem dX0_comeOn_2 : decode cX0_comeOn 2 = .ok (.getfield 61, 3) := by decide +kernel
theorem dX0_comeOn_5 : decode cX0_comeOn 5 = .ok (.invokevirtual 153, 3) := by decide +kernel
theorem dX0_comeOn_8 : decode cX0_comeOn 8 = .ok (.astore_n 1, 1) := by decide +kernel
theorem dX0_comeOn_9 : decode cX0_comeOn 9 = .ok (.aload_n 0, 1) := by decide +kernel
theorem dX0_comeOn_10 : decode cX0_comeOn 10 = .ok (.aload_n 1, 1) := by decide +kernel
theorem dX0_comeOn_11 : decode cX0_comeOn 11 = .ok (.getfield 157, 3) := by decide +kernel
theorem dX0_comeOn_14 : decode cX0_comeOn 14 = .ok (.iconst 0, 1) := by decide +kernel
theorem dX0_comeOn_15 : decode cX0_comeOn 15 = .ok (.invokevirtual 83, 3) := by decide +kernel
theorem dX0_comeOn_18 : decode cX0_comeOn 18 = .ok (.invokevirtual 57, 3) := by decide +kernel
theorem dX0_comeOn_21 : decode cX0_comeOn 21 = .ok (.astore_n 2, 1) := by decide +kernel
theorem dX0_comeOn_22 : decode cX0_comeOn 22 = .ok (.aload_n 2, 1) := by decide +kernel
theorem dX0_comeOn_23 : decode cX0_comeOn 23 = .ok (.ifnull 11, 3) := by decide +kernel
theorem dX0_comeOn_26 : decode cX0_comeOn 26 = .ok (.aload_n 0, 1) := by decide +kernel
theorem dX0_comeOn_27 : decode cX0_comeOn 27 = .ok (.aload_n 2, 1) := by decide +kernel
theorem dX0_comeOn_28 : decode cX0_comeOn 28 = .ok (.invokevirtual 169, 3) := by decide +kernel
theorem dX0_comeOn_31 : decode cX0_comeOn 31 = .ok (.ifCond .ne 4, 3) := by decide +kernel
theorem dX0_comeOn_34 : decode cX0_comeOn 34 = .ok (.return_, 1) := by decide +kernel
theorem dX0_comeOn_35 : decode cX0_comeOn 35 = .ok (.aload_n 1, 1) := by decide +kernel
theorem dX0_comeOn_36 : decode cX0_comeOn 36 = .ok (.getfield 157, 3) := by decide +kernel
theorem dX0_comeOn_39 : decode cX0_comeOn 39 = .ok (.invokevirtual 147, 3) := by decide +kernel
theorem dX0_comeOn_42 : decode cX0_comeOn 42 = .ok (.aload_n 2, 1) := by decide +kernel
theorem dX0_comeOn_43 : decode cX0_comeOn 43 = .ok (.getfield 173, 3) := by decide +kernel
theorem dX0_comeOn_46 : decode cX0_comeOn 46 = .ok (.ifCond .ne 12, 3) := by decide +kernel
theorem dX0_comeOn_49 : decode cX0_comeOn 49 = .ok (.aload_n 0, 1) := by decide +kernel
theorem dX0_comeOn_50 : decode cX0_comeOn 50 = .ok (.aload_n 2, 1) := by decide +kernel
theorem dX0_comeOn_51 : decode cX0_comeOn 51 = .ok (.aload_n 1, 1) := by decide +kernel
theorem dX0_comeOn_52 : decode cX0_comeOn 52 = .ok (.invokevirtual 177, 3) := by decide +kernel
theorem dX0_comeOn_55 : decode cX0_comeOn 55 = .ok (.ifCond .eq 27, 3) := by decide +kernel
theorem dX0_comeOn_58 : decode cX0_comeOn 58 = .ok (.aload_n 2, 1) := by decide +kernel
theorem dX0_comeOn_59 : decode cX0_comeOn 59 = .ok (.iconst 1, 1) := by decide +kernel
theorem dX0_comeOn_60 : decode cX0_comeOn 60 = .ok (.putfield 74, 3) := by decide +kernel
theorem dX0_comeOn_63 : decode cX0_comeOn 63 = .ok (.aload_n 2, 1) := by decide +kernel
theorem dX0_comeOn_64 : decode cX0_comeOn 64 = .ok (.iconst 0, 1) := by decide +kernel
theorem dX0_comeOn_65 : decode cX0_comeOn 65 = .ok (.putfield 133, 3) := by decide +kernel
theorem dX0_comeOn_68 : decode cX0_comeOn 68 = .ok (.aload_n 0, 1) := by decide +kernel
theorem dX0_comeOn_69 : decode cX0_comeOn 69 = .ok (.getfield 43, 3) := by decide +kernel
theorem dX0_comeOn_72 : decode cX0_comeOn 72 = .ok (.aload_n 2, 1) := by decide +kernel
theorem dX0_comeOn_73 : decode cX0_comeOn 73 = .ok (.getfield 160, 3) := by decide +kernel
theorem dX0_comeOn_76 : decode cX0_comeOn 76 = .ok (.invokevirtual 181, 3) := by decide +kernel
theorem dX0_comeOn_79 : decode cX0_comeOn 79 = .ok (.goto 8, 3) := by decide +kernel
theorem dX0_comeOn_82 : decode cX0_comeOn 82 = .ok (.aload_n 2, 1) := by decide +kernel
theorem dX0_comeOn_83 : decode cX0_comeOn 83 = .ok (.iconst 3, 1) := by decide +kernel
theorem dX0_comeOn_84 : decode cX0_comeOn 84 = .ok (.putfield 74, 3) := by decide +kernel
theorem dX0_comeOn_87 : decode cX0_comeOn 87 = .ok (.return_, 1) := by decide +kernel
theorem dX0_hasRoomFor_0 : decode cX0_hasRoomFor 0 = .ok (.aload_n 0, 1) := by decide +kernel
theorem dX0_hasRoomFor_1 : decode cX0_hasRoomFor 1 = .ok (.aload_n 0, 1) := by decide +kernel
theorem dX0_hasRoomFor_2 : decode cX0_hasRoomFor 2 = .ok (.getfield 43, 3) := by decide +kernel
theorem dX0_hasRoomFor_5 : decode cX0_hasRoomFor 5 = .ok (.invokevirtual 184, 3) := by decide +kernel
theorem dX0_hasRoomFor_8 : decode cX0_hasRoomFor 8 = .ok (.invokevirtual 57, 3) := by decide +kernel
theorem dX0_hasRoomFor_11 : decode cX0_hasRoomFor 11 = .ok (.astore_n 2, 1) := by decide +kernel
theorem dX0_hasRoomFor_12 : decode cX0_hasRoomFor 12 = .ok (.aload_n 2, 1) := by decide +kernel
theorem dX0_hasRoomFor_13 : decode cX0_hasRoomFor 13 = .ok (.ifnull 21, 3) := by decide +kernel
theorem dX0_hasRoomFor_16 : decode cX0_hasRoomFor 16 = .ok (.aload_n 2, 1) := by decide +kernel
theorem dX0_hasRoomFor_17 : decode cX0_hasRoomFor 17 = .ok (.getfield 100, 3) := by decide +kernel
theorem dX0_hasRoomFor_20 : decode cX0_hasRoomFor 20 = .ok (.aload_n 0, 1) := by decide +kernel
theorem dX0_hasRoomFor_21 : decode cX0_hasRoomFor 21 = .ok (.getfield 61, 3) := by decide +kernel
theorem dX0_hasRoomFor_24 : decode cX0_hasRoomFor 24 = .ok (.if_icmp .ne 14, 3) := by decide +kernel
theorem dX0_hasRoomFor_27 : decode cX0_hasRoomFor 27 = .ok (.aload_n 2, 1) := by decide +kernel
theorem dX0_hasRoomFor_28 : decode cX0_hasRoomFor 28 = .ok (.getfield 133, 3) := by decide +kernel
theorem dX0_hasRoomFor_31 : decode cX0_hasRoomFor 31 = .ok (.ifCond .le 7, 3) := by decide +kernel
theorem dX0_hasRoomFor_34 : decode cX0_hasRoomFor 34 = .ok (.iconst 1, 1) := by decide +kernel
theorem dX0_hasRoomFor_35 : decode cX0_hasRoomFor 35 = .ok (.goto 4, 3) := by decide +kernel
theorem dX0_hasRoomFor_38 : decode cX0_hasRoomFor 38 = .ok (.iconst 0, 1) := by decide +kernel
theorem dX0_hasRoomFor_39 : decode cX0_hasRoomFor 39 = .ok (.istore_n 3, 1) := by decide +kernel
theorem dX0_hasRoomFor_40 : decode cX0_hasRoomFor 40 = .ok (.iload_n 3, 1) := by decide +kernel
theorem dX0_hasRoomFor_41 : decode cX0_hasRoomFor 41 = .ok (.ifCond .eq 23, 3) := by decide +kernel
theorem dX0_hasRoomFor_44 : decode cX0_hasRoomFor 44 = .ok (.aload_n 0, 1) := by decide +kernel
theorem dX0_hasRoomFor_45 : decode cX0_hasRoomFor 45 = .ok (.invokevirtual 187, 3) := by decide +kernel
theorem dX0_hasRoomFor_48 : decode cX0_hasRoomFor 48 = .ok (.aload_n 1, 1) := by decide +kernel
theorem dX0_hasRoomFor_49 : decode cX0_hasRoomFor 49 = .ok (.getfield 87, 3) := by decide +kernel
theorem dX0_hasRoomFor_52 : decode cX0_hasRoomFor 52 = .ok (.iadd, 1) := by decide +kernel
theorem dX0_hasRoomFor_53 : decode cX0_hasRoomFor 53 = .ok (.aload_n 0, 1) := by decide +kernel
theorem dX0_hasRoomFor_54 : decode cX0_hasRoomFor 54 = .ok (.getfield 15, 3) := by decide +kernel
theorem dX0_hasRoomFor_57 : decode cX0_hasRoomFor 57 = .ok (.if_icmp .gt 7, 3) := by decide +kernel
theorem dX0_hasRoomFor_60 : decode cX0_hasRoomFor 60 = .ok (.iconst 1, 1) := by decide +kernel
theorem dX0_hasRoomFor_61 : decode cX0_hasRoomFor 61 = .ok (.goto 4, 3) := by decide +kernel
theorem dX0_hasRoomFor_64 : decode cX0_hasRoomFor 64 = .ok (.iconst 0, 1) := by decide +kernel
theorem dX0_hasRoomFor_65 : decode cX0_hasRoomFor 65 = .ok (.ireturn, 1) := by decide +kernel
theorem dX0_pays_0 : decode cX0_pays 0 = .ok (.aload_n 0, 1) := by decide +kernel
theorem dX0_pays_1 : decode cX0_pays 1 = .ok (.aload_n 1, 1) := by decide +kernel
theorem dX0_pays_2 : decode cX0_pays 2 = .ok (.getfield 93, 3) := by decide +kernel
theorem dX0_pays_5 : decode cX0_pays 5 = .ok (.aload_n 1, 1) := by decide +kernel
theorem dX0_pays_6 : decode cX0_pays 6 = .ok (.getfield 87, 3) := by decide +kernel
theorem dX0_pays_9 : decode cX0_pays 9 = .ok (.invokevirtual 107, 3) := by decide +kernel
theorem dX0_pays_12 : decode cX0_pays 12 = .ok (.istore_n 3, 1) := by decide +kernel
theorem dX0_pays_13 : decode cX0_pays 13 = .ok (.aload_n 1, 1) := by decide +kernel
theorem dX0_pays_14 : decode cX0_pays 14 = .ok (.getfield 190, 3) := by decide +kernel
theorem dX0_pays_17 : decode cX0_pays 17 = .ok (.ifCond .eq 15, 3) := by decide +kernel
theorem dX0_pays_20 : decode cX0_pays 20 = .ok (.aload_n 0, 1) := by decide +kernel
theorem dX0_pays_21 : decode cX0_pays 21 = .ok (.iconst 1, 1) := by decide +kernel
theorem dX0_pays_22 : decode cX0_pays 22 = .ok (.aload_n 1, 1) := by decide +kernel
theorem dX0_pays_23 : decode cX0_pays 23 = .ok (.getfield 87, 3) := by decide +kernel
theorem dX0_pays_26 : decode cX0_pays 26 = .ok (.invokevirtual 107, 3) := by decide +kernel
theorem dX0_pays_29 : decode cX0_pays 29 = .ok (.goto 4, 3) := by decide +kernel
theorem dX0_pays_32 : decode cX0_pays 32 = .ok (.iload_n 3, 1) := by decide +kernel
theorem dX0_pays_33 : decode cX0_pays 33 = .ok (.istore 4, 2) := by decide +kernel
theorem dX0_pays_35 : decode cX0_pays 35 = .ok (.aload_n 1, 1) := by decide +kernel
theorem dX0_pays_36 : decode cX0_pays 36 = .ok (.getfield 99, 3) := by decide +kernel
theorem dX0_pays_39 : decode cX0_pays 39 = .ok (.iload 4, 2) := by decide +kernel
theorem dX0_pays_41 : decode cX0_pays 41 = .ok (.if_icmp .ge 5, 3) := by decide +kernel
theorem dX0_pays_44 : decode cX0_pays 44 = .ok (.iconst 0, 1) := by decide +kernel
theorem dX0_pays_45 : decode cX0_pays 45 = .ok (.ireturn, 1) := by decide +kernel
theorem dX0_pays_46 : decode cX0_pays 46 = .ok (.aload_n 1, 1) := by decide +kernel
theorem dX0_pays_47 : decode cX0_pays 47 = .ok (.dup, 1) := by decide +kernel
theorem dX0_pays_48 : decode cX0_pays 48 = .ok (.getfield 99, 3) := by decide +kernel
theorem dX0_pays_51 : decode cX0_pays 51 = .ok (.iload 4, 2) := by decide +kernel
theorem dX0_pays_53 : decode cX0_pays 53 = .ok (.isub, 1) := by decide +kernel
theorem dX0_pays_54 : decode cX0_pays 54 = .ok (.putfield 99, 3) := by decide +kernel
theorem dX0_pays_57 : decode cX0_pays 57 = .ok (.aload_n 1, 1) := by decide +kernel
theorem dX0_pays_58 : decode cX0_pays 58 = .ok (.iconst 1, 1) := by decide +kernel
theorem dX0_pays_59 : decode cX0_pays 59 = .ok (.putfield 173, 3) := by decide +kernel
theorem dX0_pays_62 : decode cX0_pays 62 = .ok (.aload_n 2, 1) := by decide +kernel
theorem dX0_pays_63 : decode cX0_pays 63 = .ok (.aload_n 1, 1) := by decide +kernel
theorem dX0_pays_64 : decode cX0_pays 64 = .ok (.iload 4, 2) := by decide +kernel
theorem dX0_pays_66 : decode cX0_pays 66 = .ok (.iload_n 3, 1) := by decide +kernel
theorem dX0_pays_67 : decode cX0_pays 67 = .ok (.invokevirtual 193, 3) := by decide +kernel
theorem dX0_pays_70 : decode cX0_pays 70 = .ok (.iconst 1, 1) := by decide +kernel
theorem dX0_pays_71 : decode cX0_pays 71 = .ok (.ireturn, 1) := by decide +kernel
theorem dX1_init_0 : decode cX1_init 0 = .ok (.aload_n 0, 1) := by decide +kernel
theorem dX1_init_1 : decode cX1_init 1 = .ok (.invokespecial 3, 3) := by decide +kernel
theorem dX1_init_4 : decode cX1_init 4 = .ok (.aload_n 0, 1) := by decide +kernel
theorem dX1_init_5 : decode cX1_init 5 = .ok (.iconst 0, 1) := by decide +kernel
theorem dX1_init_6 : decode cX1_init 6 = .ok (.putfield 9, 3) := by decide +kernel
theorem dX1_init_9 : decode cX1_init 9 = .ok (.aload_n 0, 1) := by decide +kernel
theorem dX1_init_10 : decode cX1_init 10 = .ok (.iconst (-1), 1) := by decide +kernel
theorem dX1_init_11 : decode cX1_init 11 = .ok (.putfield 15, 3) := by decide +kernel
theorem dX1_init_14 : decode cX1_init 14 = .ok (.aload_n 0, 1) := by decide +kernel
theorem dX1_init_15 : decode cX1_init 15 = .ok (.iload_n 1, 1) := by decide +kernel
theorem dX1_init_16 : decode cX1_init 16 = .ok (.putfield 18, 3) := by decide +kernel
theorem dX1_init_19 : decode cX1_init 19 = .ok (.return_, 1) := by decide +kernel
theorem dX1_copyFrom_0 : decode cX1_copyFrom 0 = .ok (.aload_n 0, 1) := by decide +kernel
theorem dX1_copyFrom_1 : decode cX1_copyFrom 1 = .ok (.aload_n 1, 1) := by decide +kernel
theorem dX1_copyFrom_2 : decode cX1_copyFrom 2 = .ok (.getfield 21, 3) := by decide +kernel
theorem dX1_copyFrom_5 : decode cX1_copyFrom 5 = .ok (.putfield 21, 3) := by decide +kernel
theorem dX1_copyFrom_8 : decode cX1_copyFrom 8 = .ok (.aload_n 0, 1) := by decide +kernel
theorem dX1_copyFrom_9 : decode cX1_copyFrom 9 = .ok (.aload_n 1, 1) := by decide +kernel
theorem dX1_copyFrom_10 : decode cX1_copyFrom 10 = .ok (.getfield 24, 3) := by decide +kernel
theorem dX1_copyFrom_13 : decode cX1_copyFrom 13 = .ok (.putfield 24, 3) := by decide +kernel
theorem dX1_copyFrom_16 : decode cX1_copyFrom 16 = .ok (.aload_n 0, 1) := by decide +kernel
theorem dX1_copyFrom_17 : decode cX1_copyFrom 17 = .ok (.aload_n 1, 1) := by decide +kernel
theorem dX1_copyFrom_18 : decode cX1_copyFrom 18 = .ok (.getfield 27, 3) := by decide +kernel
theorem dX1_copyFrom_21 : decode cX1_copyFrom 21 = .ok (.putfield 27, 3) := by decide +kernel
theorem dX1_copyFrom_24 : decode cX1_copyFrom 24 = .ok (.aload_n 0, 1) := by decide +kernel
theorem dX1_copyFrom_25 : decode cX1_copyFrom 25 = .ok (.aload_n 1, 1) := by decide +kernel
theorem dX1_copyFrom_26 : decode cX1_copyFrom 26 = .ok (.getfield 30, 3) := by decide +kernel
theorem dX1_copyFrom_29 : decode cX1_copyFrom 29 = .ok (.putfield 30, 3) := by decide +kernel
theorem dX1_copyFrom_32 : decode cX1_copyFrom 32 = .ok (.aload_n 0, 1) := by decide +kernel
theorem dX1_copyFrom_33 : decode cX1_copyFrom 33 = .ok (.aload_n 1, 1) := by decide +kernel
theorem dX1_copyFrom_34 : decode cX1_copyFrom 34 = .ok (.getfield 33, 3) := by decide +kernel
theorem dX1_copyFrom_37 : decode cX1_copyFrom 37 = .ok (.putfield 33, 3) := by decide +kernel
theorem dX1_copyFrom_40 : decode cX1_copyFrom 40 = .ok (.aload_n 0, 1) := by decide +kernel
theorem dX1_copyFrom_41 : decode cX1_copyFrom 41 = .ok (.aload_n 1, 1) := by decide +kernel
theorem dX1_copyFrom_42 : decode cX1_copyFrom 42 = .ok (.getfield 36, 3) := by decide +kernel
theorem dX1_copyFrom_45 : decode cX1_copyFrom 45 = .ok (.putfield 36, 3) := by decide +kernel
theorem dX1_copyFrom_48 : decode cX1_copyFrom 48 = .ok (.aload_n 0, 1) := by decide +kernel
theorem dX1_copyFrom_49 : decode cX1_copyFrom 49 = .ok (.aload_n 1, 1) := by decide +kernel
theorem dX1_copyFrom_50 : decode cX1_copyFrom 50 = .ok (.getfield 40, 3) := by decide +kernel
theorem dX1_copyFrom_53 : decode cX1_copyFrom 53 = .ok (.putfield 40, 3) := by decide +kernel
theorem dX1_copyFrom_56 : decode cX1_copyFrom 56 = .ok (.aload_n 0, 1) := by decide +kernel
theorem dX1_copyFrom_57 : decode cX1_copyFrom 57 = .ok (.aload_n 1, 1) := by decide +kernel
theorem dX1_copyFrom_58 : decode cX1_copyFrom 58 = .ok (.getfield 9, 3) := by decide +kernel
theorem dX1_copyFrom_61 : decode cX1_copyFrom 61 = .ok (.putfield 9, 3) := by decide +kernel
theorem dX1_copyFrom_64 : decode cX1_copyFrom 64 = .ok (.aload_n 0, 1) := by decide +kernel
theorem dX1_copyFrom_65 : decode cX1_copyFrom 65 = .ok (.aload_n 1, 1) := by decide +kernel
theorem dX1_copyFrom_66 : decode cX1_copyFrom 66 = .ok (.getfield 43, 3) := by decide +kernel
theorem dX1_copyFrom_69 : decode cX1_copyFrom 69 = .ok (.putfield 43, 3) := by decide +kernel
theorem dX1_copyFrom_72 : decode cX1_copyFrom 72 = .ok (.aload_n 0, 1) := by decide +kernel
theorem dX1_copyFrom_73 : decode cX1_copyFrom 73 = .ok (.aload_n 1, 1) := by decide +kernel
theorem dX1_copyFrom_74 : decode cX1_copyFrom 74 = .ok (.getfield 15, 3) := by decide +kernel
theorem dX1_copyFrom_77 : decode cX1_copyFrom 77 = .ok (.putfield 15, 3) := by decide +kernel
theorem dX1_copyFrom_80 : decode cX1_copyFrom 80 = .ok (.return_, 1) := by decide +kernel
theorem dX2_init_0 : decode cX2_init 0 = .ok (.aload_n 0, 1) := by decide +kernel
theorem dX2_init_1 : decode cX2_init 1 = .ok (.invokespecial 3, 3) := by decide +kernel
theorem dX2_init_4 : decode cX2_init 4 = .ok (.aload_n 0, 1) := by decide +kernel
theorem dX2_init_5 : decode cX2_init 5 = .ok (.bipush 8, 2) := by decide +kernel
theorem dX2_init_7 : decode cX2_init 7 = .ok (.newarray .int, 2) := by decide +kernel
theorem dX2_init_9 : decode cX2_init 9 = .ok (.putfield 9, 3) := by decide +kernel
theorem dX2_init_12 : decode cX2_init 12 = .ok (.aload_n 0, 1) := by decide +kernel
theorem dX2_init_13 : decode cX2_init 13 = .ok (.bipush 21, 2) := by decide +kernel
theorem dX2_init_15 : decode cX2_init 15 = .ok (.newarray .int, 2) := by decide +kernel
theorem dX2_init_17 : decode cX2_init 17 = .ok (.putfield 15, 3) := by decide +kernel
theorem dX2_init_20 : decode cX2_init 20 = .ok (.return_, 1) := by decide +kernel
theorem dX2_isFull_0 : decode cX2_isFull 0 = .ok (.aload_n 0, 1) := by decide +kernel
theorem dX2_isFull_1 : decode cX2_isFull 1 = .ok (.getfield 18, 3) := by decide +kernel
theorem dX2_isFull_4 : decode cX2_isFull 4 = .ok (.aload_n 0, 1) := by decide +kernel
theorem dX2_isFull_5 : decode cX2_isFull 5 = .ok (.getfield 9, 3) := by decide +kernel
theorem dX2_isFull_8 : decode cX2_isFull 8 = .ok (.arraylength, 1) := by decide +kernel
theorem dX2_isFull_9 : decode cX2_isFull 9 = .ok (.if_icmp .lt 7, 3) := by decide +kernel
theorem dX2_isFull_12 : decode cX2_isFull 12 = .ok (.iconst 1, 1) := by decide +kernel
theorem dX2_isFull_13 : decode cX2_isFull 13 = .ok (.goto 4, 3) := by decide +kernel
theorem dX2_isFull_16 : decode cX2_isFull 16 = .ok (.iconst 0, 1) := by decide +kernel
theorem dX2_isFull_17 : decode cX2_isFull 17 = .ok (.ireturn, 1) := by decide +kernel
theorem dX2_isAmbiguousWith_0 : decode cX2_isAmbiguousWith 0 = .ok (.iconst 0, 1) := by decide +kernel
theorem dX2_isAmbiguousWith_1 : decode cX2_isAmbiguousWith 1 = .ok (.istore_n 2, 1) := by decide +kernel
theorem dX2_isAmbiguousWith_2 : decode cX2_isAmbiguousWith 2 = .ok (.iload_n 2, 1) := by decide +kernel
theorem dX2_isAmbiguousWith_3 : decode cX2_isAmbiguousWith 3 = .ok (.aload_n 0, 1) := by decide +kernel
theorem dX2_isAmbiguousWith_4 : decode cX2_isAmbiguousWith 4 = .ok (.getfield 18, 3) := by decide +kernel
theorem dX2_isAmbiguousWith_7 : decode cX2_isAmbiguousWith 7 = .ok (.if_icmp .ge 33, 3) := by decide +kernel
theorem dX2_isAmbiguousWith_10 : decode cX2_isAmbiguousWith 10 = .ok (.aload_n 0, 1) := by decide +kernel
theorem dX2_isAmbiguousWith_11 : decode cX2_isAmbiguousWith 11 = .ok (.iload_n 2, 1) := by decide +kernel
theorem dX2_isAmbiguousWith_12 : decode cX2_isAmbiguousWith 12 = .ok (.invokevirtual 22, 3) := by decide +kernel
theorem dX2_isAmbiguousWith_15 : decode cX2_isAmbiguousWith 15 = .ok (.istore_n 3, 1) := by decide +kernel
theorem dX2_isAmbiguousWith_16 : decode cX2_isAmbiguousWith 16 = .ok (.iload_n 3, 1) := by decide +kernel
theorem dX2_isAmbiguousWith_17 : decode cX2_isAmbiguousWith 17 = .ok (.iload_n 1, 1) := by decide +kernel
theorem dX2_isAmbiguousWith_18 : decode cX2_isAmbiguousWith 18 = .ok (.invokestatic 26, 3) := by decide +kernel
theorem dX2_isAmbiguousWith_21 : decode cX2_isAmbiguousWith 21 = .ok (.ifCond .ne 11, 3) := by decide +kernel
theorem dX2_isAmbiguousWith_24 : decode cX2_isAmbiguousWith 24 = .ok (.iload_n 1, 1) := by decide +kernel
theorem dX2_isAmbiguousWith_25 : decode cX2_isAmbiguousWith 25 = .ok (.iload_n 3, 1) := by decide +kernel
theorem dX2_isAmbiguousWith_26 : decode cX2_isAmbiguousWith 26 = .ok (.invokestatic 26, 3) := by decide +kernel
theorem dX2_isAmbiguousWith_29 : decode cX2_isAmbiguousWith 29 = .ok (.ifCond .eq 5, 3) := by decide +kernel
theorem dX2_isAmbiguousWith_32 : decode cX2_isAmbiguousWith 32 = .ok (.iconst 1, 1) := by decide +kernel
theorem dX2_isAmbiguousWith_33 : decode cX2_isAmbiguousWith 33 = .ok (.ireturn, 1) := by decide +kernel
theorem dX2_isAmbiguousWith_34 : decode cX2_isAmbiguousWith 34 = .ok (.iinc 2 1, 3) := by decide +kernel
theorem dX2_isAmbiguousWith_37 : decode cX2_isAmbiguousWith 37 = .ok (.goto (-35), 3) := by decide +kernel
theorem dX2_isAmbiguousWith_40 : decode cX2_isAmbiguousWith 40 = .ok (.iconst 0, 1) := by decide +kernel
theorem dX2_isAmbiguousWith_41 : decode cX2_isAmbiguousWith 41 = .ok (.ireturn, 1) := by decide +kernel
theorem dX2_add_0 : decode cX2_add 0 = .ok (.aload_n 0, 1) := by decide +kernel
theorem dX2_add_1 : decode cX2_add 1 = .ok (.getfield 18, 3) := by decide +kernel
theorem dX2_add_4 : decode cX2_add 4 = .ok (.aload_n 0, 1) := by decide +kernel
theorem dX2_add_5 : decode cX2_add 5 = .ok (.getfield 9, 3) := by decide +kernel
theorem dX2_add_8 : decode cX2_add 8 = .ok (.arraylength, 1) := by decide +kernel
theorem dX2_add_9 : decode cX2_add 9 = .ok (.invokestatic 32, 3) := by decide +kernel
theorem dX2_add_12 : decode cX2_add 12 = .ok (.ifCond .ne 5, 3) := by decide +kernel
theorem dX2_add_15 : decode cX2_add 15 = .ok (.iconst (-1), 1) := by decide +kernel
theorem dX2_add_16 : decode cX2_add 16 = .ok (.ireturn, 1) := by decide +kernel
theorem dX2_add_17 : decode cX2_add 17 = .ok (.aload_n 0, 1) := by decide +kernel
theorem dX2_add_18 : decode cX2_add 18 = .ok (.getfield 9, 3) := by decide +kernel
theorem dX2_add_21 : decode cX2_add 21 = .ok (.aload_n 0, 1) := by decide +kernel
theorem dX2_add_22 : decode cX2_add 22 = .ok (.getfield 18, 3) := by decide +kernel
theorem dX2_add_25 : decode cX2_add 25 = .ok (.iload_n 1, 1) := by decide +kernel
theorem dX2_add_26 : decode cX2_add 26 = .ok (.iastore, 1) := by decide +kernel
theorem dX2_add_27 : decode cX2_add 27 = .ok (.aload_n 0, 1) := by decide +kernel
theorem dX2_add_28 : decode cX2_add 28 = .ok (.dup, 1) := by decide +kernel
theorem dX2_add_29 : decode cX2_add 29 = .ok (.getfield 18, 3) := by decide +kernel
theorem dX2_add_32 : decode cX2_add 32 = .ok (.iconst 1, 1) := by decide +kernel
theorem dX2_add_33 : decode cX2_add 33 = .ok (.iadd, 1) := by decide +kernel
theorem dX2_add_34 : decode cX2_add 34 = .ok (.putfield 18, 3) := by decide +kernel
theorem dX2_add_37 : decode cX2_add 37 = .ok (.aload_n 0, 1) := by decide +kernel
theorem dX2_add_38 : decode cX2_add 38 = .ok (.getfield 18, 3) := by decide +kernel
theorem dX2_add_41 : decode cX2_add 41 = .ok (.iconst 1, 1) := by decide +kernel
theorem dX2_add_42 : decode cX2_add 42 = .ok (.isub, 1) := by decide +kernel
theorem dX2_add_43 : decode cX2_add 43 = .ok (.ireturn, 1) := by decide +kernel
theorem dX2_ringsOf_0 : decode cX2_ringsOf 0 = .ok (.iload_n 1, 1) := by decide +kernel
theorem dX2_ringsOf_1 : decode cX2_ringsOf 1 = .ok (.aload_n 0, 1) := by decide +kernel
theorem dX2_ringsOf_2 : decode cX2_ringsOf 2 = .ok (.getfield 9, 3) := by decide +kernel
theorem dX2_ringsOf_5 : decode cX2_ringsOf 5 = .ok (.arraylength, 1) := by decide +kernel
theorem dX2_ringsOf_6 : decode cX2_ringsOf 6 = .ok (.invokestatic 32, 3) := by decide +kernel
theorem dX2_ringsOf_9 : decode cX2_ringsOf 9 = .ok (.ifCond .eq 12, 3) := by decide +kernel
theorem dX2_ringsOf_12 : decode cX2_ringsOf 12 = .ok (.aload_n 0, 1) := by decide +kernel
theorem dX2_ringsOf_13 : decode cX2_ringsOf 13 = .ok (.getfield 9, 3) := by decide +kernel
theorem dX2_ringsOf_16 : decode cX2_ringsOf 16 = .ok (.iload_n 1, 1) := by decide +kernel
theorem dX2_ringsOf_17 : decode cX2_ringsOf 17 = .ok (.iaload, 1) := by decide +kernel
theorem dX2_ringsOf_18 : decode cX2_ringsOf 18 = .ok (.goto 4, 3) := by decide +kernel
theorem dX2_ringsOf_21 : decode cX2_ringsOf 21 = .ok (.iconst 0, 1) := by decide +kernel
theorem dX2_ringsOf_22 : decode cX2_ringsOf 22 = .ok (.ireturn, 1) := by decide +kernel
theorem dX2_readRow_0 : decode cX2_readRow 0 = .ok (.iload_n 1, 1) := by decide +kernel
theorem dX2_readRow_1 : decode cX2_readRow 1 = .ok (.istore_n 3, 1) := by decide +kernel
theorem dX2_readRow_2 : decode cX2_readRow 2 = .ok (.iconst 0, 1) := by decide +kernel
theorem dX2_readRow_3 : decode cX2_readRow 3 = .ok (.istore 4, 2) := by decide +kernel
theorem dX2_readRow_5 : decode cX2_readRow 5 = .ok (.iconst (-1), 1) := by decide +kernel
theorem dX2_readRow_6 : decode cX2_readRow 6 = .ok (.istore 5, 2) := by decide +kernel
theorem dX2_readRow_8 : decode cX2_readRow 8 = .ok (.iconst 0, 1) := by decide +kernel
theorem dX2_readRow_9 : decode cX2_readRow 9 = .ok (.istore 6, 2) := by decide +kernel
theorem dX2_readRow_11 : decode cX2_readRow 11 = .ok (.iload 6, 2) := by decide +kernel
theorem dX2_readRow_13 : decode cX2_readRow 13 = .ok (.bipush 9, 2) := by decide +kernel
theorem dX2_readRow_15 : decode cX2_readRow 15 = .ok (.if_icmp .ge 43, 3) := by decide +kernel
theorem dX2_readRow_18 : decode cX2_readRow 18 = .ok (.aload_n 0, 1) := by decide +kernel
theorem dX2_readRow_19 : decode cX2_readRow 19 = .ok (.iload_n 3, 1) := by decide +kernel
theorem dX2_readRow_20 : decode cX2_readRow 20 = .ok (.invokevirtual 35, 3) := by decide +kernel
theorem dX2_readRow_23 : decode cX2_readRow 23 = .ok (.istore 7, 2) := by decide +kernel
theorem dX2_readRow_25 : decode cX2_readRow 25 = .ok (.iload 7, 2) := by decide +kernel
theorem dX2_readRow_27 : decode cX2_readRow 27 = .ok (.iconst (-1), 1) := by decide +kernel
theorem dX2_readRow_28 : decode cX2_readRow 28 = .ok (.if_icmp .ne 6, 3) := by decide +kernel
theorem dX2_readRow_31 : decode cX2_readRow 31 = .ok (.goto 27, 3) := by decide +kernel
theorem dX2_readRow_34 : decode cX2_readRow 34 = .ok (.aload_n 0, 1) := by decide +kernel
theorem dX2_readRow_35 : decode cX2_readRow 35 = .ok (.iload 7, 2) := by decide +kernel
theorem dX2_readRow_37 : decode cX2_readRow 37 = .ok (.invokevirtual 22, 3) := by decide +kernel
theorem dX2_readRow_40 : decode cX2_readRow 40 = .ok (.iload_n 3, 1) := by decide +kernel
theorem dX2_readRow_41 : decode cX2_readRow 41 = .ok (.invokestatic 38, 3) := by decide +kernel
theorem dX2_readRow_44 : decode cX2_readRow 44 = .ok (.istore_n 3, 1) := by decide +kernel
theorem dX2_readRow_45 : decode cX2_readRow 45 = .ok (.iinc 4 1, 3) := by decide +kernel
theorem dX2_readRow_48 : decode cX2_readRow 48 = .ok (.iload 7, 2) := by decide +kernel
theorem dX2_readRow_50 : decode cX2_readRow 50 = .ok (.istore 5, 2) := by decide +kernel
theorem dX2_readRow_52 : decode cX2_readRow 52 = .ok (.iinc 6 1, 3) := by decide +kernel
theorem dX2_readRow_55 : decode cX2_readRow 55 = .ok (.goto (-44), 3) := by decide +kernel
theorem dX2_readRow_58 : decode cX2_readRow 58 = .ok (.iload_n 2, 1) := by decide +kernel
theorem dX2_readRow_59 : decode cX2_readRow 59 = .ok (.lookupswitch 31 #[(0, 25), (1, 28)], 25) := by decide +kernel
theorem dX2_readRow_84 : decode cX2_readRow 84 = .ok (.iload 4, 2) := by decide +kernel
theorem dX2_readRow_86 : decode cX2_readRow 86 = .ok (.ireturn, 1) := by decide +kernel
theorem dX2_readRow_87 : decode cX2_readRow 87 = .ok (.iload 5, 2) := by decide +kernel
theorem dX2_readRow_89 : decode cX2_readRow 89 = .ok (.ireturn, 1) := by decide +kernel
theorem dX2_readRow_90 : decode cX2_readRow 90 = .ok (.iload_n 3, 1) := by decide +kernel
theorem dX2_readRow_91 : decode cX2_readRow 91 = .ok (.invokestatic 42, 3) := by decide +kernel
theorem dX2_readRow_94 : decode cX2_readRow 94 = .ok (.ireturn, 1) := by decide +kernel
theorem dX2_safeRings_0 : decode cX2_safeRings 0 = .ok (.iload_n 1, 1) := by decide +kernel
theorem dX2_safeRings_1 : decode cX2_safeRings 1 = .ok (.invokestatic 42, 3) := by decide +kernel
theorem dX2_safeRings_4 : decode cX2_safeRings 4 = .ok (.istore_n 2, 1) := by decide +kernel
theorem dX2_safeRings_5 : decode cX2_safeRings 5 = .ok (.iconst 0, 1) := by decide +kernel
theorem dX2_safeRings_6 : decode cX2_safeRings 6 = .ok (.istore_n 3, 1) := by decide +kernel
theorem dX2_safeRings_7 : decode cX2_safeRings 7 = .ok (.iconst 0, 1) := by decide +kernel
theorem dX2_safeRings_8 : decode cX2_safeRings 8 = .ok (.istore 4, 2) := by decide +kernel
theorem dX2_safeRings_10 : decode cX2_safeRings 10 = .ok (.iload 4, 2) := by decide +kernel
theorem dX2_safeRings_12 : decode cX2_safeRings 12 = .ok (.iload_n 2, 1) := by decide +kernel
theorem dX2_safeRings_13 : decode cX2_safeRings 13 = .ok (.if_icmp .ge 35, 3) := by decide +kernel
theorem dX2_safeRings_16 : decode cX2_safeRings 16 = .ok (.iload_n 1, 1) := by decide +kernel
theorem dX2_safeRings_17 : decode cX2_safeRings 17 = .ok (.iload 4, 2) := by decide +kernel
theorem dX2_safeRings_19 : decode cX2_safeRings 19 = .ok (.invokestatic 45, 3) := by decide +kernel
theorem dX2_safeRings_22 : decode cX2_safeRings 22 = .ok (.istore 5, 2) := by decide +kernel
theorem dX2_safeRings_24 : decode cX2_safeRings 24 = .ok (.iload 5, 2) := by decide +kernel
theorem dX2_safeRings_26 : decode cX2_safeRings 26 = .ok (.ifCond .eq 13, 3) := by decide +kernel
theorem dX2_safeRings_29 : decode cX2_safeRings 29 = .ok (.aload_n 0, 1) := by decide +kernel
theorem dX2_safeRings_30 : decode cX2_safeRings 30 = .ok (.iload 5, 2) := by decide +kernel
theorem dX2_safeRings_32 : decode cX2_safeRings 32 = .ok (.iconst 2, 1) := by decide +kernel
theorem dX2_safeRings_33 : decode cX2_safeRings 33 = .ok (.invokevirtual 48, 3) := by decide +kernel
theorem dX2_safeRings_36 : decode cX2_safeRings 36 = .ok (.ifCond .le 6, 3) := by decide +kernel
theorem dX2_safeRings_39 : decode cX2_safeRings 39 = .ok (.iinc 3 1, 3) := by decide +kernel
theorem dX2_safeRings_42 : decode cX2_safeRings 42 = .ok (.iinc 4 1, 3) := by decide +kernel
theorem dX2_safeRings_45 : decode cX2_safeRings 45 = .ok (.goto (-35), 3) := by decide +kernel
theorem dX2_safeRings_48 : decode cX2_safeRings 48 = .ok (.iload_n 3, 1) := by decide +kernel
theorem dX2_safeRings_49 : decode cX2_safeRings 49 = .ok (.ireturn, 1) := by decide +kernel
theorem dX2_wholeRows_0 : decode cX2_wholeRows 0 = .ok (.iload_n 1, 1) := by decide +kernel
theorem dX2_wholeRows_1 : decode cX2_wholeRows 1 = .ok (.aload_n 0, 1) := by decide +kernel
theorem dX2_wholeRows_2 : decode cX2_wholeRows 2 = .ok (.getfield 15, 3) := by decide +kernel
theorem dX2_wholeRows_5 : decode cX2_wholeRows 5 = .ok (.arraylength, 1) := by decide +kernel
theorem dX2_wholeRows_6 : decode cX2_wholeRows 6 = .ok (.invokestatic 32, 3) := by decide +kernel
theorem dX2_wholeRows_9 : decode cX2_wholeRows 9 = .ok (.ifCond .ne 5, 3) := by decide +kernel
theorem dX2_wholeRows_12 : decode cX2_wholeRows 12 = .ok (.iconst 0, 1) := by decide +kernel
theorem dX2_wholeRows_13 : decode cX2_wholeRows 13 = .ok (.ireturn, 1) := by decide +kernel
theorem dX2_wholeRows_14 : decode cX2_wholeRows 14 = .ok (.aload_n 0, 1) := by decide +kernel
theorem dX2_wholeRows_15 : decode cX2_wholeRows 15 = .ok (.getfield 15, 3) := by decide +kernel
theorem dX2_wholeRows_18 : decode cX2_wholeRows 18 = .ok (.iconst 0, 1) := by decide +kernel
theorem dX2_wholeRows_19 : decode cX2_wholeRows 19 = .ok (.iconst 1, 1) := by decide +kernel
theorem dX2_wholeRows_20 : decode cX2_wholeRows 20 = .ok (.iastore, 1) := by decide +kernel
theorem dX2_wholeRows_21 : decode cX2_wholeRows 21 = .ok (.iconst 1, 1) := by decide +kernel
theorem dX2_wholeRows_22 : decode cX2_wholeRows 22 = .ok (.istore_n 2, 1) := by decide +kernel
theorem dX2_wholeRows_23 : decode cX2_wholeRows 23 = .ok (.iload_n 2, 1) := by decide +kernel
theorem dX2_wholeRows_24 : decode cX2_wholeRows 24 = .ok (.iload_n 1, 1) := by decide +kernel
theorem dX2_wholeRows_25 : decode cX2_wholeRows 25 = .ok (.if_icmp .gt 20, 3) := by decide +kernel
theorem dX2_wholeRows_28 : decode cX2_wholeRows 28 = .ok (.aload_n 0, 1) := by decide +kernel
theorem dX2_wholeRows_29 : decode cX2_wholeRows 29 = .ok (.getfield 15, 3) := by decide +kernel
theorem dX2_wholeRows_32 : decode cX2_wholeRows 32 = .ok (.iload_n 2, 1) := by decide +kernel
theorem dX2_wholeRows_33 : decode cX2_wholeRows 33 = .ok (.aload_n 0, 1) := by decide +kernel
theorem dX2_wholeRows_34 : decode cX2_wholeRows 34 = .ok (.iload_n 2, 1) := by decide +kernel
theorem dX2_wholeRows_35 : decode cX2_wholeRows 35 = .ok (.invokevirtual 51, 3) := by decide +kernel
theorem dX2_wholeRows_38 : decode cX2_wholeRows 38 = .ok (.iastore, 1) := by decide +kernel
theorem dX2_wholeRows_39 : decode cX2_wholeRows 39 = .ok (.iinc 2 1, 3) := by decide +kernel
theorem dX2_wholeRows_42 : decode cX2_wholeRows 42 = .ok (.goto (-19), 3) := by decide +kernel
theorem dX2_wholeRows_45 : decode cX2_wholeRows 45 = .ok (.aload_n 0, 1) := by decide +kernel
theorem dX2_wholeRows_46 : decode cX2_wholeRows 46 = .ok (.getfield 15, 3) := by decide +kernel
theorem dX2_wholeRows_49 : decode cX2_wholeRows 49 = .ok (.iload_n 1, 1) := by decide +kernel
theorem dX2_wholeRows_50 : decode cX2_wholeRows 50 = .ok (.iaload, 1) := by decide +kernel
theorem dX2_wholeRows_51 : decode cX2_wholeRows 51 = .ok (.ireturn, 1) := by decide +kernel
theorem dX2_mixedInto_0 : decode cX2_mixedInto 0 = .ok (.lload_n 1, 1) := by decide +kernel
theorem dX2_mixedInto_1 : decode cX2_mixedInto 1 = .ok (.lstore_n 3, 1) := by decide +kernel
theorem dX2_mixedInto_2 : decode cX2_mixedInto 2 = .ok (.iconst 0, 1) := by decide +kernel
theorem dX2_mixedInto_3 : decode cX2_mixedInto 3 = .ok (.istore 5, 2) := by decide +kernel
theorem dX2_mixedInto_5 : decode cX2_mixedInto 5 = .ok (.iload 5, 2) := by decide +kernel
theorem dX2_mixedInto_7 : decode cX2_mixedInto 7 = .ok (.aload_n 0, 1) := by decide +kernel
theorem dX2_mixedInto_8 : decode cX2_mixedInto 8 = .ok (.getfield 18, 3) := by decide +kernel
theorem dX2_mixedInto_11 : decode cX2_mixedInto 11 = .ok (.if_icmp .ge 20, 3) := by decide +kernel
theorem dX2_mixedInto_14 : decode cX2_mixedInto 14 = .ok (.lload_n 3, 1) := by decide +kernel
theorem dX2_mixedInto_15 : decode cX2_mixedInto 15 = .ok (.aload_n 0, 1) := by decide +kernel
theorem dX2_mixedInto_16 : decode cX2_mixedInto 16 = .ok (.iload 5, 2) := by decide +kernel
theorem dX2_mixedInto_18 : decode cX2_mixedInto 18 = .ok (.invokevirtual 22, 3) := by decide +kernel
theorem dX2_mixedInto_21 : decode cX2_mixedInto 21 = .ok (.invokestatic 54, 3) := by decide +kernel
theorem dX2_mixedInto_24 : decode cX2_mixedInto 24 = .ok (.lstore_n 3, 1) := by decide +kernel
theorem dX2_mixedInto_25 : decode cX2_mixedInto 25 = .ok (.iinc 5 1, 3) := by decide +kernel
theorem dX2_mixedInto_28 : decode cX2_mixedInto 28 = .ok (.goto (-23), 3) := by decide +kernel
theorem dX2_mixedInto_31 : decode cX2_mixedInto 31 = .ok (.lload_n 3, 1) := by decide +kernel
theorem dX2_mixedInto_32 : decode cX2_mixedInto 32 = .ok (.lreturn, 1) := by decide +kernel
theorem dX2_signalAtBeginningOf_0 : decode cX2_signalAtBeginningOf 0 = .ok (.iconst 0, 1) := by decide +kernel
theorem dX2_signalAtBeginningOf_1 : decode cX2_signalAtBeginningOf 1 = .ok (.istore_n 2, 1) := by decide +kernel
theorem dX2_signalAtBeginningOf_2 : decode cX2_signalAtBeginningOf 2 = .ok (.iload_n 2, 1) := by decide +kernel
theorem dX2_signalAtBeginningOf_3 : decode cX2_signalAtBeginningOf 3 = .ok (.aload_n 0, 1) := by decide +kernel
theorem dX2_signalAtBeginningOf_4 : decode cX2_signalAtBeginningOf 4 = .ok (.getfield 18, 3) := by decide +kernel
theorem dX2_signalAtBeginningOf_7 : decode cX2_signalAtBeginningOf 7 = .ok (.if_icmp .ge 23, 3) := by decide +kernel
theorem dX2_signalAtBeginningOf_10 : decode cX2_signalAtBeginningOf 10 = .ok (.aload_n 0, 1) := by decide +kernel
theorem dX2_signalAtBeginningOf_11 : decode cX2_signalAtBeginningOf 11 = .ok (.iload_n 2, 1) := by decide +kernel
theorem dX2_signalAtBeginningOf_12 : decode cX2_signalAtBeginningOf 12 = .ok (.invokevirtual 22, 3) := by decide +kernel
theorem dX2_signalAtBeginningOf_15 : decode cX2_signalAtBeginningOf 15 = .ok (.iload_n 1, 1) := by decide +kernel
theorem dX2_signalAtBeginningOf_16 : decode cX2_signalAtBeginningOf 16 = .ok (.invokestatic 26, 3) := by decide +kernel
theorem dX2_signalAtBeginningOf_19 : decode cX2_signalAtBeginningOf 19 = .ok (.ifCond .eq 5, 3) := by decide +kernel
theorem dX2_signalAtBeginningOf_22 : decode cX2_signalAtBeginningOf 22 = .ok (.iload_n 2, 1) := by decide +kernel
theorem dX2_signalAtBeginningOf_23 : decode cX2_signalAtBeginningOf 23 = .ok (.ireturn, 1) := by decide +kernel
theorem dX2_signalAtBeginningOf_24 : decode cX2_signalAtBeginningOf 24 = .ok (.iinc 2 1, 3) := by decide +kernel
theorem dX2_signalAtBeginningOf_27 : decode cX2_signalAtBeginningOf 27 = .ok (.goto (-25), 3) := by decide +kernel
theorem dX2_signalAtBeginningOf_30 : decode cX2_signalAtBeginningOf 30 = .ok (.iconst (-1), 1) := by decide +kernel
theorem dX2_signalAtBeginningOf_31 : decode cX2_signalAtBeginningOf 31 = .ok (.ireturn, 1) := by decide +kernel
theorem dX2_rowsByLastSignal_0 : decode cX2_rowsByLastSignal 0 = .ok (.iconst 0, 1) := by decide +kernel
theorem dX2_rowsByLastSignal_1 : decode cX2_rowsByLastSignal 1 = .ok (.istore_n 2, 1) := by decide +kernel
theorem dX2_rowsByLastSignal_2 : decode cX2_rowsByLastSignal 2 = .ok (.iconst 0, 1) := by decide +kernel
theorem dX2_rowsByLastSignal_3 : decode cX2_rowsByLastSignal 3 = .ok (.istore_n 3, 1) := by decide +kernel
theorem dX2_rowsByLastSignal_4 : decode cX2_rowsByLastSignal 4 = .ok (.iload_n 3, 1) := by decide +kernel
theorem dX2_rowsByLastSignal_5 : decode cX2_rowsByLastSignal 5 = .ok (.aload_n 0, 1) := by decide +kernel
theorem dX2_rowsByLastSignal_6 : decode cX2_rowsByLastSignal 6 = .ok (.getfield 18, 3) := by decide +kernel
theorem dX2_rowsByLastSignal_9 : decode cX2_rowsByLastSignal 9 = .ok (.if_icmp .ge 44, 3) := by decide +kernel
theorem dX2_rowsByLastSignal_12 : decode cX2_rowsByLastSignal 12 = .ok (.iload_n 1, 1) := by decide +kernel
theorem dX2_rowsByLastSignal_13 : decode cX2_rowsByLastSignal 13 = .ok (.aload_n 0, 1) := by decide +kernel
theorem dX2_rowsByLastSignal_14 : decode cX2_rowsByLastSignal 14 = .ok (.iload_n 3, 1) := by decide +kernel
theorem dX2_rowsByLastSignal_15 : decode cX2_rowsByLastSignal 15 = .ok (.invokevirtual 22, 3) := by decide +kernel
theorem dX2_rowsByLastSignal_18 : decode cX2_rowsByLastSignal 18 = .ok (.invokestatic 42, 3) := by decide +kernel
theorem dX2_rowsByLastSignal_21 : decode cX2_rowsByLastSignal 21 = .ok (.isub, 1) := by decide +kernel
theorem dX2_rowsByLastSignal_22 : decode cX2_rowsByLastSignal 22 = .ok (.istore 4, 2) := by decide +kernel
theorem dX2_rowsByLastSignal_24 : decode cX2_rowsByLastSignal 24 = .ok (.iload 4, 2) := by decide +kernel
theorem dX2_rowsByLastSignal_26 : decode cX2_rowsByLastSignal 26 = .ok (.aload_n 0, 1) := by decide +kernel
theorem dX2_rowsByLastSignal_27 : decode cX2_rowsByLastSignal 27 = .ok (.getfield 15, 3) := by decide +kernel
theorem dX2_rowsByLastSignal_30 : decode cX2_rowsByLastSignal 30 = .ok (.arraylength, 1) := by decide +kernel
theorem dX2_rowsByLastSignal_31 : decode cX2_rowsByLastSignal 31 = .ok (.invokestatic 32, 3) := by decide +kernel
theorem dX2_rowsByLastSignal_34 : decode cX2_rowsByLastSignal 34 = .ok (.ifCond .eq 13, 3) := by decide +kernel
theorem dX2_rowsByLastSignal_37 : decode cX2_rowsByLastSignal 37 = .ok (.iload_n 2, 1) := by decide +kernel
theorem dX2_rowsByLastSignal_38 : decode cX2_rowsByLastSignal 38 = .ok (.aload_n 0, 1) := by decide +kernel
theorem dX2_rowsByLastSignal_39 : decode cX2_rowsByLastSignal 39 = .ok (.getfield 15, 3) := by decide +kernel
theorem dX2_rowsByLastSignal_42 : decode cX2_rowsByLastSignal 42 = .ok (.iload 4, 2) := by decide +kernel
theorem dX2_rowsByLastSignal_44 : decode cX2_rowsByLastSignal 44 = .ok (.iaload, 1) := by decide +kernel
theorem dX2_rowsByLastSignal_45 : decode cX2_rowsByLastSignal 45 = .ok (.iadd, 1) := by decide +kernel
theorem dX2_rowsByLastSignal_46 : decode cX2_rowsByLastSignal 46 = .ok (.istore_n 2, 1) := by decide +kernel
theorem dX2_rowsByLastSignal_47 : decode cX2_rowsByLastSignal 47 = .ok (.iinc 3 1, 3) := by decide +kernel
theorem dX2_rowsByLastSignal_50 : decode cX2_rowsByLastSignal 50 = .ok (.goto (-46), 3) := by decide +kernel
theorem dX2_rowsByLastSignal_53 : decode cX2_rowsByLastSignal 53 = .ok (.iload_n 2, 1) := by decide +kernel
theorem dX2_rowsByLastSignal_54 : decode cX2_rowsByLastSignal 54 = .ok (.ireturn, 1) := by decide +kernel
theorem dX3_init_0 : decode cX3_init 0 = .ok (.aload_n 0, 1) := by decide +kernel
theorem dX3_init_1 : decode cX3_init 1 = .ok (.invokespecial 3, 3) := by decide +kernel
theorem dX3_init_4 : decode cX3_init 4 = .ok (.aload_n 0, 1) := by decide +kernel
theorem dX3_init_5 : decode cX3_init 5 = .ok (.new 9, 3) := by decide +kernel
theorem dX3_init_8 : decode cX3_init 8 = .ok (.dup, 1) := by decide +kernel
theorem dX3_init_9 : decode cX3_init 9 = .ok (.invokespecial 11, 3) := by decide +kernel
theorem dX3_init_12 : decode cX3_init 12 = .ok (.putfield 12, 3) := by decide +kernel
theorem dX3_init_15 : decode cX3_init 15 = .ok (.return_, 1) := by decide +kernel
theorem dX3_take_0 : decode cX3_take 0 = .ok (.aload_n 0, 1) := by decide +kernel
theorem dX3_take_1 : decode cX3_take 1 = .ok (.dup, 1) := by decide +kernel
theorem dX3_take_2 : decode cX3_take 2 = .ok (.getfield 18, 3) := by decide +kernel
theorem dX3_take_5 : decode cX3_take 5 = .ok (.iload_n 2, 1) := by decide +kernel
theorem dX3_take_6 : decode cX3_take 6 = .ok (.iadd, 1) := by decide +kernel
theorem dX3_take_7 : decode cX3_take 7 = .ok (.putfield 18, 3) := by decide +kernel
theorem dX3_take_10 : decode cX3_take 10 = .ok (.aload_n 0, 1) := by decide +kernel
theorem dX3_take_11 : decode cX3_take 11 = .ok (.dup, 1) := by decide +kernel
theorem dX3_take_12 : decode cX3_take 12 = .ok (.getfield 22, 3) := by decide +kernel
theorem dX3_take_15 : decode cX3_take 15 = .ok (.iconst 1, 1) := by decide +kernel
theorem dX3_take_16 : decode cX3_take 16 = .ok (.iadd, 1) := by decide +kernel
theorem dX3_take_17 : decode cX3_take 17 = .ok (.putfield 22, 3) := by decide +kernel
theorem dX3_take_20 : decode cX3_take 20 = .ok (.aload_n 0, 1) := by decide +kernel
theorem dX3_take_21 : decode cX3_take 21 = .ok (.dup, 1) := by decide +kernel
theorem dX3_take_22 : decode cX3_take 22 = .ok (.getfield 25, 3) := by decide +kernel
theorem dX3_take_25 : decode cX3_take 25 = .ok (.aload_n 1, 1) := by decide +kernel
theorem dX3_take_26 : decode cX3_take 26 = .ok (.getfield 28, 3) := by decide +kernel
theorem dX3_take_29 : decode cX3_take 29 = .ok (.iadd, 1) := by decide +kernel
theorem dX3_take_30 : decode cX3_take 30 = .ok (.putfield 25, 3) := by decide +kernel
theorem dX3_take_33 : decode cX3_take 33 = .ok (.aload_n 0, 1) := by decide +kernel
theorem dX3_take_34 : decode cX3_take 34 = .ok (.dup, 1) := by decide +kernel
theorem dX3_take_35 : decode cX3_take 35 = .ok (.getfield 31, 3) := by decide +kernel
theorem dX3_take_38 : decode cX3_take 38 = .ok (.iload_n 3, 1) := by decide +kernel
theorem dX3_take_39 : decode cX3_take 39 = .ok (.iload_n 2, 1) := by decide +kernel
theorem dX3_take_40 : decode cX3_take 40 = .ok (.isub, 1) := by decide +kernel
theorem dX3_take_41 : decode cX3_take 41 = .ok (.iadd, 1) := by decide +kernel
theorem dX3_take_42 : decode cX3_take 42 = .ok (.putfield 31, 3) := by decide +kernel
theorem dX3_take_45 : decode cX3_take 45 = .ok (.return_, 1) := by decide +kernel
theorem dX3_tell_0 : decode cX3_tell 0 = .ok (.iload_n 1, 1) := by decide +kernel
theorem dX3_tell_1 : decode cX3_tell 1 = .ok (.tableswitch 42 0 2 #[27, 32, 37], 27) := by decide +kernel
theorem dX3_tell_28 : decode cX3_tell 28 = .ok (.aload_n 0, 1) := by decide +kernel
theorem dX3_tell_29 : decode cX3_tell 29 = .ok (.getfield 18, 3) := by decide +kernel
theorem dX3_tell_32 : decode cX3_tell 32 = .ok (.ireturn, 1) := by decide +kernel
theorem dX3_tell_33 : decode cX3_tell 33 = .ok (.aload_n 0, 1) := by decide +kernel
theorem dX3_tell_34 : decode cX3_tell 34 = .ok (.getfield 22, 3) := by decide +kernel
theorem dX3_tell_37 : decode cX3_tell 37 = .ok (.ireturn, 1) := by decide +kernel
theorem dX3_tell_38 : decode cX3_tell 38 = .ok (.aload_n 0, 1) := by decide +kernel
theorem dX3_tell_39 : decode cX3_tell 39 = .ok (.getfield 25, 3) := by decide +kernel
theorem dX3_tell_42 : decode cX3_tell 42 = .ok (.ireturn, 1) := by decide +kernel
theorem dX3_tell_43 : decode cX3_tell 43 = .ok (.aload_n 0, 1) := by decide +kernel
theorem dX3_tell_44 : decode cX3_tell 44 = .ok (.getfield 12, 3) := by decide +kernel
theorem dX3_tell_47 : decode cX3_tell 47 = .ok (.getfield 34, 3) := by decide +kernel
theorem dX3_tell_50 : decode cX3_tell 50 = .ok (.ireturn, 1) := by decide +kernel
theorem dX3_mixedInto_0 : decode cX3_mixedInto 0 = .ok (.lload_n 1, 1) := by decide +kernel
theorem dX3_mixedInto_1 : decode cX3_mixedInto 1 = .ok (.lstore_n 3, 1) := by decide +kernel
theorem dX3_mixedInto_2 : decode cX3_mixedInto 2 = .ok (.iconst 0, 1) := by decide +kernel
theorem dX3_mixedInto_3 : decode cX3_mixedInto 3 = .ok (.istore 5, 2) := by decide +kernel
theorem dX3_mixedInto_5 : decode cX3_mixedInto 5 = .ok (.iload 5, 2) := by decide +kernel
theorem dX3_mixedInto_7 : decode cX3_mixedInto 7 = .ok (.iconst 4, 1) := by decide +kernel
theorem dX3_mixedInto_8 : decode cX3_mixedInto 8 = .ok (.if_icmp .ge 20, 3) := by decide +kernel
theorem dX3_mixedInto_11 : decode cX3_mixedInto 11 = .ok (.lload_n 3, 1) := by decide +kernel
theorem dX3_mixedInto_12 : decode cX3_mixedInto 12 = .ok (.aload_n 0, 1) := by decide +kernel
theorem dX3_mixedInto_13 : decode cX3_mixedInto 13 = .ok (.iload 5, 2) := by decide +kernel
theorem dX3_mixedInto_15 : decode cX3_mixedInto 15 = .ok (.invokevirtual 37, 3) := by decide +kernel
theorem dX3_mixedInto_18 : decode cX3_mixedInto 18 = .ok (.invokestatic 41, 3) := by decide +kernel
theorem dX3_mixedInto_21 : decode cX3_mixedInto 21 = .ok (.lstore_n 3, 1) := by decide +kernel
theorem dX3_mixedInto_22 : decode cX3_mixedInto 22 = .ok (.iinc 5 1, 3) := by decide +kernel
theorem dX3_mixedInto_25 : decode cX3_mixedInto 25 = .ok (.goto (-20), 3) := by decide +kernel
theorem dX3_mixedInto_28 : decode cX3_mixedInto 28 = .ok (.iconst 0, 1) := by decide +kernel
theorem dX3_mixedInto_29 : decode cX3_mixedInto 29 = .ok (.istore 5, 2) := by decide +kernel
theorem dX3_mixedInto_31 : decode cX3_mixedInto 31 = .ok (.iload 5, 2) := by decide +kernel
theorem dX3_mixedInto_33 : decode cX3_mixedInto 33 = .ok (.aload_n 0, 1) := by decide +kernel
theorem dX3_mixedInto_34 : decode cX3_mixedInto 34 = .ok (.getfield 12, 3) := by decide +kernel
theorem dX3_mixedInto_37 : decode cX3_mixedInto 37 = .ok (.getfield 34, 3) := by decide +kernel
theorem dX3_mixedInto_40 : decode cX3_mixedInto 40 = .ok (.if_icmp .ge 23, 3) := by decide +kernel
theorem dX3_mixedInto_43 : decode cX3_mixedInto 43 = .ok (.lload_n 3, 1) := by decide +kernel
theorem dX3_mixedInto_44 : decode cX3_mixedInto 44 = .ok (.aload_n 0, 1) := by decide +kernel
theorem dX3_mixedInto_45 : decode cX3_mixedInto 45 = .ok (.getfield 12, 3) := by decide +kernel
theorem dX3_mixedInto_48 : decode cX3_mixedInto 48 = .ok (.iload 5, 2) := by decide +kernel
theorem dX3_mixedInto_50 : decode cX3_mixedInto 50 = .ok (.invokevirtual 45, 3) := by decide +kernel
theorem dX3_mixedInto_53 : decode cX3_mixedInto 53 = .ok (.invokestatic 41, 3) := by decide +kernel
theorem dX3_mixedInto_56 : decode cX3_mixedInto 56 = .ok (.lstore_n 3, 1) := by decide +kernel
theorem dX3_mixedInto_57 : decode cX3_mixedInto 57 = .ok (.iinc 5 1, 3) := by decide +kernel
theorem dX3_mixedInto_60 : decode cX3_mixedInto 60 = .ok (.goto (-29), 3) := by decide +kernel
theorem dX3_mixedInto_63 : decode cX3_mixedInto 63 = .ok (.lload_n 3, 1) := by decide +kernel
theorem dX3_mixedInto_64 : decode cX3_mixedInto 64 = .ok (.lreturn, 1) := by decide +kernel
theorem dX3_copyFrom_0 : decode cX3_copyFrom 0 = .ok (.aload_n 0, 1) := by decide +kernel
theorem dX3_copyFrom_1 : decode cX3_copyFrom 1 = .ok (.getfield 12, 3) := by decide +kernel
theorem dX3_copyFrom_4 : decode cX3_copyFrom 4 = .ok (.aload_n 1, 1) := by decide +kernel
theorem dX3_copyFrom_5 : decode cX3_copyFrom 5 = .ok (.getfield 12, 3) := by decide +kernel
theorem dX3_copyFrom_8 : decode cX3_copyFrom 8 = .ok (.invokevirtual 48, 3) := by decide +kernel
theorem dX3_copyFrom_11 : decode cX3_copyFrom 11 = .ok (.aload_n 0, 1) := by decide +kernel
theorem dX3_copyFrom_12 : decode cX3_copyFrom 12 = .ok (.aload_n 1, 1) := by decide +kernel
theorem dX3_copyFrom_13 : decode cX3_copyFrom 13 = .ok (.getfield 18, 3) := by decide +kernel
theorem dX3_copyFrom_16 : decode cX3_copyFrom 16 = .ok (.putfield 18, 3) := by decide +kernel
theorem dX3_copyFrom_19 : decode cX3_copyFrom 19 = .ok (.aload_n 0, 1) := by decide +kernel
theorem dX3_copyFrom_20 : decode cX3_copyFrom 20 = .ok (.aload_n 1, 1) := by decide +kernel
theorem dX3_copyFrom_21 : decode cX3_copyFrom 21 = .ok (.getfield 22, 3) := by decide +kernel
theorem dX3_copyFrom_24 : decode cX3_copyFrom 24 = .ok (.putfield 22, 3) := by decide +kernel
theorem dX3_copyFrom_27 : decode cX3_copyFrom 27 = .ok (.aload_n 0, 1) := by decide +kernel
theorem dX3_copyFrom_28 : decode cX3_copyFrom 28 = .ok (.aload_n 1, 1) := by decide +kernel
theorem dX3_copyFrom_29 : decode cX3_copyFrom 29 = .ok (.getfield 25, 3) := by decide +kernel
theorem dX3_copyFrom_32 : decode cX3_copyFrom 32 = .ok (.putfield 25, 3) := by decide +kernel
theorem dX3_copyFrom_35 : decode cX3_copyFrom 35 = .ok (.aload_n 0, 1) := by decide +kernel
theorem dX3_copyFrom_36 : decode cX3_copyFrom 36 = .ok (.aload_n 1, 1) := by decide +kernel
theorem dX3_copyFrom_37 : decode cX3_copyFrom 37 = .ok (.getfield 31, 3) := by decide +kernel
theorem dX3_copyFrom_40 : decode cX3_copyFrom 40 = .ok (.putfield 31, 3) := by decide +kernel
theorem dX3_copyFrom_43 : decode cX3_copyFrom 43 = .ok (.return_, 1) := by decide +kernel
theorem dX4_lengthOf_0 : decode cX4_lengthOf 0 = .ok (.iload_n 0, 1) := by decide +kernel
theorem dX4_lengthOf_1 : decode cX4_lengthOf 1 = .ok (.istore_n 1, 1) := by decide +kernel
theorem dX4_lengthOf_2 : decode cX4_lengthOf 2 = .ok (.iconst 0, 1) := by decide +kernel
theorem dX4_lengthOf_3 : decode cX4_lengthOf 3 = .ok (.istore_n 2, 1) := by decide +kernel
theorem dX4_lengthOf_4 : decode cX4_lengthOf 4 = .ok (.iload_n 2, 1) := by decide +kernel
theorem dX4_lengthOf_5 : decode cX4_lengthOf 5 = .ok (.bipush 10, 2) := by decide +kernel
theorem dX4_lengthOf_7 : decode cX4_lengthOf 7 = .ok (.if_icmp .gt 37, 3) := by decide +kernel
theorem dX4_lengthOf_10 : decode cX4_lengthOf 10 = .ok (.iload_n 1, 1) := by decide +kernel
theorem dX4_lengthOf_11 : decode cX4_lengthOf 11 = .ok (.ifCond .ne 5, 3) := by decide +kernel
theorem dX4_lengthOf_14 : decode cX4_lengthOf 14 = .ok (.iload_n 2, 1) := by decide +kernel
theorem dX4_lengthOf_15 : decode cX4_lengthOf 15 = .ok (.ireturn, 1) := by decide +kernel
theorem dX4_lengthOf_16 : decode cX4_lengthOf 16 = .ok (.iload_n 1, 1) := by decide +kernel
theorem dX4_lengthOf_17 : decode cX4_lengthOf 17 = .ok (.bipush 10, 2) := by decide +kernel
theorem dX4_lengthOf_19 : decode cX4_lengthOf 19 = .ok (.irem, 1) := by decide +kernel
theorem dX4_lengthOf_20 : decode cX4_lengthOf 20 = .ok (.istore_n 3, 1) := by decide +kernel
theorem dX4_lengthOf_21 : decode cX4_lengthOf 21 = .ok (.iload_n 3, 1) := by decide +kernel
theorem dX4_lengthOf_22 : decode cX4_lengthOf 22 = .ok (.iconst 1, 1) := by decide +kernel
theorem dX4_lengthOf_23 : decode cX4_lengthOf 23 = .ok (.if_icmp .eq 10, 3) := by decide +kernel
theorem dX4_lengthOf_26 : decode cX4_lengthOf 26 = .ok (.iload_n 3, 1) := by decide +kernel
theorem dX4_lengthOf_27 : decode cX4_lengthOf 27 = .ok (.iconst 2, 1) := by decide +kernel
theorem dX4_lengthOf_28 : decode cX4_lengthOf 28 = .ok (.if_icmp .eq 5, 3) := by decide +kernel
theorem dX4_lengthOf_31 : decode cX4_lengthOf 31 = .ok (.iconst (-1), 1) := by decide +kernel
theorem dX4_lengthOf_32 : decode cX4_lengthOf 32 = .ok (.ireturn, 1) := by decide +kernel
theorem dX4_lengthOf_33 : decode cX4_lengthOf 33 = .ok (.iload_n 1, 1) := by decide +kernel
theorem dX4_lengthOf_34 : decode cX4_lengthOf 34 = .ok (.bipush 10, 2) := by decide +kernel
theorem dX4_lengthOf_36 : decode cX4_lengthOf 36 = .ok (.idiv, 1) := by decide +kernel
theorem dX4_lengthOf_37 : decode cX4_lengthOf 37 = .ok (.istore_n 1, 1) := by decide +kernel
theorem dX4_lengthOf_38 : decode cX4_lengthOf 38 = .ok (.iinc 2 1, 3) := by decide +kernel
theorem dX4_lengthOf_41 : decode cX4_lengthOf 41 = .ok (.goto (-37), 3) := by decide +kernel
theorem dX4_lengthOf_44 : decode cX4_lengthOf 44 = .ok (.iconst (-1), 1) := by decide +kernel
theorem dX4_lengthOf_45 : decode cX4_lengthOf 45 = .ok (.ireturn, 1) := by decide +kernel
theorem dX4_ringAt_0 : decode cX4_ringAt 0 = .ok (.iload_n 0, 1) := by decide +kernel
theorem dX4_ringAt_1 : decode cX4_ringAt 1 = .ok (.iload_n 1, 1) := by decide +kernel
theorem dX4_ringAt_2 : decode cX4_ringAt 2 = .ok (.invokestatic 9, 3) := by decide +kernel
theorem dX4_ringAt_5 : decode cX4_ringAt 5 = .ok (.bipush 10, 2) := by decide +kernel
theorem dX4_ringAt_7 : decode cX4_ringAt 7 = .ok (.irem, 1) := by decide +kernel
theorem dX4_ringAt_8 : decode cX4_ringAt 8 = .ok (.ireturn, 1) := by decide +kernel
theorem dX4_withoutLast_0 : decode cX4_withoutLast 0 = .ok (.iload_n 0, 1) := by decide +kernel
theorem dX4_withoutLast_1 : decode cX4_withoutLast 1 = .ok (.istore_n 2, 1) := by decide +kernel
theorem dX4_withoutLast_2 : decode cX4_withoutLast 2 = .ok (.iconst 0, 1) := by decide +kernel
theorem dX4_withoutLast_3 : decode cX4_withoutLast 3 = .ok (.istore_n 3, 1) := by decide +kernel
theorem dX4_withoutLast_4 : decode cX4_withoutLast 4 = .ok (.iload_n 3, 1) := by decide +kernel
theorem dX4_withoutLast_5 : decode cX4_withoutLast 5 = .ok (.iload_n 1, 1) := by decide +kernel
theorem dX4_withoutLast_6 : decode cX4_withoutLast 6 = .ok (.if_icmp .ge 20, 3) := by decide +kernel
theorem dX4_withoutLast_9 : decode cX4_withoutLast 9 = .ok (.iload_n 3, 1) := by decide +kernel
theorem dX4_withoutLast_10 : decode cX4_withoutLast 10 = .ok (.bipush 10, 2) := by decide +kernel
theorem dX4_withoutLast_12 : decode cX4_withoutLast 12 = .ok (.if_icmp .ge 14, 3) := by decide +kernel
theorem dX4_withoutLast_15 : decode cX4_withoutLast 15 = .ok (.iload_n 2, 1) := by decide +kernel
theorem dX4_withoutLast_16 : decode cX4_withoutLast 16 = .ok (.bipush 10, 2) := by decide +kernel
theorem dX4_withoutLast_18 : decode cX4_withoutLast 18 = .ok (.idiv, 1) := by decide +kernel
theorem dX4_withoutLast_19 : decode cX4_withoutLast 19 = .ok (.istore_n 2, 1) := by decide +kernel
theorem dX4_withoutLast_20 : decode cX4_withoutLast 20 = .ok (.iinc 3 1, 3) := by decide +kernel
theorem dX4_withoutLast_23 : decode cX4_withoutLast 23 = .ok (.goto (-19), 3) := by decide +kernel
theorem dX4_withoutLast_26 : decode cX4_withoutLast 26 = .ok (.iload_n 2, 1) := by decide +kernel
theorem dX4_withoutLast_27 : decode cX4_withoutLast 27 = .ok (.ireturn, 1) := by decide +kernel
theorem dX4_withoutRing_0 : decode cX4_withoutRing 0 = .ok (.iload_n 0, 1) := by decide +kernel
theorem dX4_withoutRing_1 : decode cX4_withoutRing 1 = .ok (.iload_n 0, 1) := by decide +kernel
theorem dX4_withoutRing_2 : decode cX4_withoutRing 2 = .ok (.iload_n 1, 1) := by decide +kernel
theorem dX4_withoutRing_3 : decode cX4_withoutRing 3 = .ok (.invokestatic 9, 3) := by decide +kernel
theorem dX4_withoutRing_6 : decode cX4_withoutRing 6 = .ok (.iload_n 1, 1) := by decide +kernel
theorem dX4_withoutRing_7 : decode cX4_withoutRing 7 = .ok (.invokestatic 15, 3) := by decide +kernel
theorem dX4_withoutRing_10 : decode cX4_withoutRing 10 = .ok (.isub, 1) := by decide +kernel
theorem dX4_withoutRing_11 : decode cX4_withoutRing 11 = .ok (.istore_n 2, 1) := by decide +kernel
theorem dX4_withoutRing_12 : decode cX4_withoutRing 12 = .ok (.iload_n 0, 1) := by decide +kernel
theorem dX4_withoutRing_13 : decode cX4_withoutRing 13 = .ok (.iload_n 1, 1) := by decide +kernel
theorem dX4_withoutRing_14 : decode cX4_withoutRing 14 = .ok (.iconst 1, 1) := by decide +kernel
theorem dX4_withoutRing_15 : decode cX4_withoutRing 15 = .ok (.iadd, 1) := by decide +kernel
theorem dX4_withoutRing_16 : decode cX4_withoutRing 16 = .ok (.invokestatic 9, 3) := by decide +kernel
theorem dX4_withoutRing_19 : decode cX4_withoutRing 19 = .ok (.iload_n 1, 1) := by decide +kernel
theorem dX4_withoutRing_20 : decode cX4_withoutRing 20 = .ok (.invokestatic 15, 3) := by decide +kernel
theorem dX4_withoutRing_23 : decode cX4_withoutRing 23 = .ok (.iload_n 2, 1) := by decide +kernel
theorem dX4_withoutRing_24 : decode cX4_withoutRing 24 = .ok (.iadd, 1) := by decide +kernel
theorem dX4_withoutRing_25 : decode cX4_withoutRing 25 = .ok (.ireturn, 1) := by decide +kernel
theorem dX4_isBeginning_0 : decode cX4_isBeginning 0 = .ok (.iload_n 1, 1) := by decide +kernel
theorem dX4_isBeginning_1 : decode cX4_isBeginning 1 = .ok (.invokestatic 18, 3) := by decide +kernel
theorem dX4_isBeginning_4 : decode cX4_isBeginning 4 = .ok (.iload_n 0, 1) := by decide +kernel
theorem dX4_isBeginning_5 : decode cX4_isBeginning 5 = .ok (.invokestatic 18, 3) := by decide +kernel
theorem dX4_isBeginning_8 : decode cX4_isBeginning 8 = .ok (.isub, 1) := by decide +kernel
theorem dX4_isBeginning_9 : decode cX4_isBeginning 9 = .ok (.istore_n 2, 1) := by decide +kernel
theorem dX4_isBeginning_10 : decode cX4_isBeginning 10 = .ok (.iload_n 2, 1) := by decide +kernel
theorem dX4_isBeginning_11 : decode cX4_isBeginning 11 = .ok (.ifCond .lt 16, 3) := by decide +kernel
theorem dX4_isBeginning_14 : decode cX4_isBeginning 14 = .ok (.iload_n 1, 1) := by decide +kernel
theorem dX4_isBeginning_15 : decode cX4_isBeginning 15 = .ok (.iload_n 2, 1) := by decide +kernel
theorem dX4_isBeginning_16 : decode cX4_isBeginning 16 = .ok (.invokestatic 9, 3) := by decide +kernel
theorem dX4_isBeginning_19 : decode cX4_isBeginning 19 = .ok (.iload_n 0, 1) := by decide +kernel
theorem dX4_isBeginning_20 : decode cX4_isBeginning 20 = .ok (.if_icmp .ne 7, 3) := by decide +kernel
theorem dX4_isBeginning_23 : decode cX4_isBeginning 23 = .ok (.iconst 1, 1) := by decide +kernel
theorem dX4_isBeginning_24 : decode cX4_isBeginning 24 = .ok (.goto 4, 3) := by decide +kernel
theorem dX4_isBeginning_27 : decode cX4_isBeginning 27 = .ok (.iconst 0, 1) := by decide +kernel
theorem dX4_isBeginning_28 : decode cX4_isBeginning 28 = .ok (.ireturn, 1) := by decide +kernel
theorem dX4_behindBeginning_0 : decode cX4_behindBeginning 0 = .ok (.iload_n 1, 1) := by decide +kernel
theorem dX4_behindBeginning_1 : decode cX4_behindBeginning 1 = .ok (.iload_n 0, 1) := by decide +kernel
theorem dX4_behindBeginning_2 : decode cX4_behindBeginning 2 = .ok (.iload_n 1, 1) := by decide +kernel
theorem dX4_behindBeginning_3 : decode cX4_behindBeginning 3 = .ok (.invokestatic 18, 3) := by decide +kernel
theorem dX4_behindBeginning_6 : decode cX4_behindBeginning 6 = .ok (.iload_n 0, 1) := by decide +kernel
theorem dX4_behindBeginning_7 : decode cX4_behindBeginning 7 = .ok (.invokestatic 18, 3) := by decide +kernel
theorem dX4_behindBeginning_10 : decode cX4_behindBeginning 10 = .ok (.isub, 1) := by decide +kernel
theorem dX4_behindBeginning_11 : decode cX4_behindBeginning 11 = .ok (.invokestatic 15, 3) := by decide +kernel
theorem dX4_behindBeginning_14 : decode cX4_behindBeginning 14 = .ok (.isub, 1) := by decide +kernel
theorem dX4_behindBeginning_15 : decode cX4_behindBeginning 15 = .ok (.ireturn, 1) := by decide +kernel
theorem dX4_followedBy_0 : decode cX4_followedBy 0 = .ok (.iload_n 0, 1) := by decide +kernel
theorem dX4_followedBy_1 : decode cX4_followedBy 1 = .ok (.istore_n 2, 1) := by decide +kernel
theorem dX4_followedBy_2 : decode cX4_followedBy 2 = .ok (.iconst 0, 1) := by decide +kernel
theorem dX4_followedBy_3 : decode cX4_followedBy 3 = .ok (.istore_n 3, 1) := by decide +kernel
theorem dX4_followedBy_4 : decode cX4_followedBy 4 = .ok (.iload_n 3, 1) := by decide +kernel
theorem dX4_followedBy_5 : decode cX4_followedBy 5 = .ok (.iload_n 1, 1) := by decide +kernel
theorem dX4_followedBy_6 : decode cX4_followedBy 6 = .ok (.if_icmp .ge 20, 3) := by decide +kernel
theorem dX4_followedBy_9 : decode cX4_followedBy 9 = .ok (.iload_n 3, 1) := by decide +kernel
theorem dX4_followedBy_10 : decode cX4_followedBy 10 = .ok (.bipush 10, 2) := by decide +kernel
theorem dX4_followedBy_12 : decode cX4_followedBy 12 = .ok (.if_icmp .ge 14, 3) := by decide +kernel
theorem dX4_followedBy_15 : decode cX4_followedBy 15 = .ok (.iload_n 2, 1) := by decide +kernel
theorem dX4_followedBy_16 : decode cX4_followedBy 16 = .ok (.bipush 10, 2) := by decide +kernel
theorem dX4_followedBy_18 : decode cX4_followedBy 18 = .ok (.imul, 1) := by decide +kernel
theorem dX4_followedBy_19 : decode cX4_followedBy 19 = .ok (.istore_n 2, 1) := by decide +kernel
theorem dX4_followedBy_20 : decode cX4_followedBy 20 = .ok (.iinc 3 1, 3) := by decide +kernel
theorem dX4_followedBy_23 : decode cX4_followedBy 23 = .ok (.goto (-19), 3) := by decide +kernel
theorem dX4_followedBy_26 : decode cX4_followedBy 26 = .ok (.iload_n 2, 1) := by decide +kernel
theorem dX4_followedBy_27 : decode cX4_followedBy 27 = .ok (.ireturn, 1) := by decide +kernel
theorem dX5_init_0 : decode cX5_init 0 = .ok (.aload_n 0, 1) := by decide +kernel
theorem dX5_init_1 : decode cX5_init 1 = .ok (.invokespecial 3, 3) := by decide +kernel
theorem dX5_init_4 : decode cX5_init 4 = .ok (.aload_n 0, 1) := by decide +kernel
theorem dX5_init_5 : decode cX5_init 5 = .ok (.bipush 16, 2) := by decide +kernel
theorem dX5_init_7 : decode cX5_init 7 = .ok (.newarray .int, 2) := by decide +kernel
theorem dX5_init_9 : decode cX5_init 9 = .ok (.putfield 9, 3) := by decide +kernel
theorem dX5_init_12 : decode cX5_init 12 = .ok (.return_, 1) := by decide +kernel
theorem dX5_at_0 : decode cX5_at 0 = .ok (.iload_n 1, 1) := by decide +kernel
theorem dX5_at_1 : decode cX5_at 1 = .ok (.aload_n 0, 1) := by decide +kernel
theorem dX5_at_2 : decode cX5_at 2 = .ok (.getfield 15, 3) := by decide +kernel
theorem dX5_at_5 : decode cX5_at 5 = .ok (.if_icmp .ge 24, 3) := by decide +kernel
theorem dX5_at_8 : decode cX5_at 8 = .ok (.iload_n 1, 1) := by decide +kernel
theorem dX5_at_9 : decode cX5_at 9 = .ok (.aload_n 0, 1) := by decide +kernel
theorem dX5_at_10 : decode cX5_at 10 = .ok (.getfield 9, 3) := by decide +kernel
theorem dX5_at_13 : decode cX5_at 13 = .ok (.arraylength, 1) := by decide +kernel
theorem dX5_at_14 : decode cX5_at 14 = .ok (.invokestatic 19, 3) := by decide +kernel
theorem dX5_at_17 : decode cX5_at 17 = .ok (.ifCond .eq 12, 3) := by decide +kernel
theorem dX5_at_20 : decode cX5_at 20 = .ok (.aload_n 0, 1) := by decide +kernel
theorem dX5_at_21 : decode cX5_at 21 = .ok (.getfield 9, 3) := by decide +kernel
theorem dX5_at_24 : decode cX5_at 24 = .ok (.iload_n 1, 1) := by decide +kernel
theorem dX5_at_25 : decode cX5_at 25 = .ok (.iaload, 1) := by decide +kernel
theorem dX5_at_26 : decode cX5_at 26 = .ok (.goto 4, 3) := by decide +kernel
theorem dX5_at_29 : decode cX5_at 29 = .ok (.iconst (-1), 1) := by decide +kernel
theorem dX5_at_30 : decode cX5_at 30 = .ok (.ireturn, 1) := by decide +kernel
theorem dX5_last_0 : decode cX5_last 0 = .ok (.aload_n 0, 1) := by decide +kernel
theorem dX5_last_1 : decode cX5_last 1 = .ok (.aload_n 0, 1) := by decide +kernel
theorem dX5_last_2 : decode cX5_last 2 = .ok (.getfield 15, 3) := by decide +kernel
theorem dX5_last_5 : decode cX5_last 5 = .ok (.iconst 1, 1) := by decide +kernel
theorem dX5_last_6 : decode cX5_last 6 = .ok (.isub, 1) := by decide +kernel
theorem dX5_last_7 : decode cX5_last 7 = .ok (.invokevirtual 23, 3) := by decide +kernel
theorem dX5_last_10 : decode cX5_last 10 = .ok (.ireturn, 1) := by decide +kernel
theorem dX5_addLast_0 : decode cX5_addLast 0 = .ok (.aload_n 0, 1) := by decide +kernel
theorem dX5_addLast_1 : decode cX5_addLast 1 = .ok (.getfield 15, 3) := by decide +kernel
theorem dX5_addLast_4 : decode cX5_addLast 4 = .ok (.aload_n 0, 1) := by decide +kernel
theorem dX5_addLast_5 : decode cX5_addLast 5 = .ok (.getfield 9, 3) := by decide +kernel
theorem dX5_addLast_8 : decode cX5_addLast 8 = .ok (.arraylength, 1) := by decide +kernel
theorem dX5_addLast_9 : decode cX5_addLast 9 = .ok (.invokestatic 19, 3) := by decide +kernel
theorem dX5_addLast_12 : decode cX5_addLast 12 = .ok (.ifCond .eq 23, 3) := by decide +kernel
theorem dX5_addLast_15 : decode cX5_addLast 15 = .ok (.aload_n 0, 1) := by decide +kernel
theorem dX5_addLast_16 : decode cX5_addLast 16 = .ok (.getfield 9, 3) := by decide +kernel
theorem dX5_addLast_19 : decode cX5_addLast 19 = .ok (.aload_n 0, 1) := by decide +kernel
theorem dX5_addLast_20 : decode cX5_addLast 20 = .ok (.getfield 15, 3) := by decide +kernel
theorem dX5_addLast_23 : decode cX5_addLast 23 = .ok (.iload_n 1, 1) := by decide +kernel
theorem dX5_addLast_24 : decode cX5_addLast 24 = .ok (.iastore, 1) := by decide +kernel
theorem dX5_addLast_25 : decode cX5_addLast 25 = .ok (.aload_n 0, 1) := by decide +kernel
theorem dX5_addLast_26 : decode cX5_addLast 26 = .ok (.dup, 1) := by decide +kernel
theorem dX5_addLast_27 : decode cX5_addLast 27 = .ok (.getfield 15, 3) := by decide +kernel
theorem dX5_addLast_30 : decode cX5_addLast 30 = .ok (.iconst 1, 1) := by decide +kernel
theorem dX5_addLast_31 : decode cX5_addLast 31 = .ok (.iadd, 1) := by decide +kernel
theorem dX5_addLast_32 : decode cX5_addLast 32 = .ok (.putfield 15, 3) := by decide +kernel
theorem dX5_addLast_35 : decode cX5_addLast 35 = .ok (.return_, 1) := by decide +kernel
theorem dX5_addFirst_0 : decode cX5_addFirst 0 = .ok (.aload_n 0, 1) := by decide +kernel
theorem dX5_addFirst_1 : decode cX5_addFirst 1 = .ok (.getfield 15, 3) := by decide +kernel
theorem dX5_addFirst_4 : decode cX5_addFirst 4 = .ok (.aload_n 0, 1) := by decide +kernel
theorem dX5_addFirst_5 : decode cX5_addFirst 5 = .ok (.getfield 9, 3) := by decide +kernel
theorem dX5_addFirst_8 : decode cX5_addFirst 8 = .ok (.arraylength, 1) := by decide +kernel
theorem dX5_addFirst_9 : decode cX5_addFirst 9 = .ok (.invokestatic 19, 3) := by decide +kernel
theorem dX5_addFirst_12 : decode cX5_addFirst 12 = .ok (.ifCond .eq 49, 3) := by decide +kernel
theorem dX5_addFirst_15 : decode cX5_addFirst 15 = .ok (.aload_n 0, 1) := by decide +kernel
theorem dX5_addFirst_16 : decode cX5_addFirst 16 = .ok (.getfield 15, 3) := by decide +kernel
theorem dX5_addFirst_19 : decode cX5_addFirst 19 = .ok (.istore_n 2, 1) := by decide +kernel
theorem dX5_addFirst_20 : decode cX5_addFirst 20 = .ok (.iload_n 2, 1) := by decide +kernel
theorem dX5_addFirst_21 : decode cX5_addFirst 21 = .ok (.ifCond .le 23, 3) := by decide +kernel
theorem dX5_addFirst_24 : decode cX5_addFirst 24 = .ok (.aload_n 0, 1) := by decide +kernel
theorem dX5_addFirst_25 : decode cX5_addFirst 25 = .ok (.getfield 9, 3) := by decide +kernel
theorem dX5_addFirst_28 : decode cX5_addFirst 28 = .ok (.iload_n 2, 1) := by decide +kernel
theorem dX5_addFirst_29 : decode cX5_addFirst 29 = .ok (.aload_n 0, 1) := by decide +kernel
theorem dX5_addFirst_30 : decode cX5_addFirst 30 = .ok (.getfield 9, 3) := by decide +kernel
theorem dX5_addFirst_33 : decode cX5_addFirst 33 = .ok (.iload_n 2, 1) := by decide +kernel
theorem dX5_addFirst_34 : decode cX5_addFirst 34 = .ok (.iconst 1, 1) := by decide +kernel
theorem dX5_addFirst_35 : decode cX5_addFirst 35 = .ok (.isub, 1) := by decide +kernel
theorem dX5_addFirst_36 : decode cX5_addFirst 36 = .ok (.iaload, 1) := by decide +kernel
theorem dX5_addFirst_37 : decode cX5_addFirst 37 = .ok (.iastore, 1) := by decide +kernel
theorem dX5_addFirst_38 : decode cX5_addFirst 38 = .ok (.iinc 2 (-1), 3) := by decide +kernel
theorem dX5_addFirst_41 : decode cX5_addFirst 41 = .ok (.goto (-21), 3) := by decide +kernel
theorem dX5_addFirst_44 : decode cX5_addFirst 44 = .ok (.aload_n 0, 1) := by decide +kernel
theorem dX5_addFirst_45 : decode cX5_addFirst 45 = .ok (.getfield 9, 3) := by decide +kernel
theorem dX5_addFirst_48 : decode cX5_addFirst 48 = .ok (.iconst 0, 1) := by decide +kernel
theorem dX5_addFirst_49 : decode cX5_addFirst 49 = .ok (.iload_n 1, 1) := by decide +kernel
theorem dX5_addFirst_50 : decode cX5_addFirst 50 = .ok (.iastore, 1) := by decide +kernel
theorem dX5_addFirst_51 : decode cX5_addFirst 51 = .ok (.aload_n 0, 1) := by decide +kernel
theorem dX5_addFirst_52 : decode cX5_addFirst 52 = .ok (.dup, 1) := by decide +kernel
theorem dX5_addFirst_53 : decode cX5_addFirst 53 = .ok (.getfield 15, 3) := by decide +kernel
theorem dX5_addFirst_56 : decode cX5_addFirst 56 = .ok (.iconst 1, 1) := by decide +kernel
theorem dX5_addFirst_57 : decode cX5_addFirst 57 = .ok (.iadd, 1) := by decide +kernel
theorem dX5_addFirst_58 : decode cX5_addFirst 58 = .ok (.putfield 15, 3) := by decide +kernel
theorem dX5_addFirst_61 : decode cX5_addFirst 61 = .ok (.return_, 1) := by decide +kernel
theorem dX5_removeFirst_0 : decode cX5_removeFirst 0 = .ok (.aload_n 0, 1) := by decide +kernel
theorem dX5_removeFirst_1 : decode cX5_removeFirst 1 = .ok (.getfield 15, 3) := by decide +kernel
theorem dX5_removeFirst_4 : decode cX5_removeFirst 4 = .ok (.ifCond .le 54, 3) := by decide +kernel
theorem dX5_removeFirst_7 : decode cX5_removeFirst 7 = .ok (.aload_n 0, 1) := by decide +kernel
theorem dX5_removeFirst_8 : decode cX5_removeFirst 8 = .ok (.dup, 1) := by decide +kernel
theorem dX5_removeFirst_9 : decode cX5_removeFirst 9 = .ok (.getfield 15, 3) := by decide +kernel
theorem dX5_removeFirst_12 : decode cX5_removeFirst 12 = .ok (.iconst 1, 1) := by decide +kernel
theorem dX5_removeFirst_13 : decode cX5_removeFirst 13 = .ok (.isub, 1) := by decide +kernel
theorem dX5_removeFirst_14 : decode cX5_removeFirst 14 = .ok (.putfield 15, 3) := by decide +kernel
theorem dX5_removeFirst_17 : decode cX5_removeFirst 17 = .ok (.iconst 0, 1) := by decide +kernel
theorem dX5_removeFirst_18 : decode cX5_removeFirst 18 = .ok (.istore_n 1, 1) := by decide +kernel
theorem dX5_removeFirst_19 : decode cX5_removeFirst 19 = .ok (.iload_n 1, 1) := by decide +kernel
theorem dX5_removeFirst_20 : decode cX5_removeFirst 20 = .ok (.aload_n 0, 1) := by decide +kernel
theorem dX5_removeFirst_21 : decode cX5_removeFirst 21 = .ok (.getfield 15, 3) := by decide +kernel
theorem dX5_removeFirst_24 : decode cX5_removeFirst 24 = .ok (.if_icmp .ge 34, 3) := by decide +kernel
theorem dX5_removeFirst_27 : decode cX5_removeFirst 27 = .ok (.iload_n 1, 1) := by decide +kernel
theorem dX5_removeFirst_28 : decode cX5_removeFirst 28 = .ok (.iconst 1, 1) := by decide +kernel
theorem dX5_removeFirst_29 : decode cX5_removeFirst 29 = .ok (.iadd, 1) := by decide +kernel
theorem dX5_removeFirst_30 : decode cX5_removeFirst 30 = .ok (.aload_n 0, 1) := by decide +kernel
theorem dX5_removeFirst_31 : decode cX5_removeFirst 31 = .ok (.getfield 9, 3) := by decide +kernel
theorem dX5_removeFirst_34 : decode cX5_removeFirst 34 = .ok (.arraylength, 1) := by decide +kernel
theorem dX5_removeFirst_35 : decode cX5_removeFirst 35 = .ok (.if_icmp .ge 23, 3) := by decide +kernel
theorem dX5_removeFirst_38 : decode cX5_removeFirst 38 = .ok (.aload_n 0, 1) := by decide +kernel
theorem dX5_removeFirst_39 : decode cX5_removeFirst 39 = .ok (.getfield 9, 3) := by decide +kernel
theorem dX5_removeFirst_42 : decode cX5_removeFirst 42 = .ok (.iload_n 1, 1) := by decide +kernel
theorem dX5_removeFirst_43 : decode cX5_removeFirst 43 = .ok (.aload_n 0, 1) := by decide +kernel
theorem dX5_removeFirst_44 : decode cX5_removeFirst 44 = .ok (.getfield 9, 3) := by decide +kernel
theorem dX5_removeFirst_47 : decode cX5_removeFirst 47 = .ok (.iload_n 1, 1) := by decide +kernel
theorem dX5_removeFirst_48 : decode cX5_removeFirst 48 = .ok (.iconst 1, 1) := by decide +kernel
theorem dX5_removeFirst_49 : decode cX5_removeFirst 49 = .ok (.iadd, 1) := by decide +kernel
theorem dX5_removeFirst_50 : decode cX5_removeFirst 50 = .ok (.iaload, 1) := by decide +kernel
theorem dX5_removeFirst_51 : decode cX5_removeFirst 51 = .ok (.iastore, 1) := by decide +kernel
theorem dX5_removeFirst_52 : decode cX5_removeFirst 52 = .ok (.iinc 1 1, 3) := by decide +kernel
theorem dX5_removeFirst_55 : decode cX5_removeFirst 55 = .ok (.goto (-36), 3) := by decide +kernel
theorem dX5_removeFirst_58 : decode cX5_removeFirst 58 = .ok (.return_, 1) := by decide +kernel
theorem dX5_removeLast_0 : decode cX5_removeLast 0 = .ok (.aload_n 0, 1) := by decide +kernel
theorem dX5_removeLast_1 : decode cX5_removeLast 1 = .ok (.getfield 15, 3) := by decide +kernel
theorem dX5_removeLast_4 : decode cX5_removeLast 4 = .ok (.ifCond .le 13, 3) := by decide +kernel
theorem dX5_removeLast_7 : decode cX5_removeLast 7 = .ok (.aload_n 0, 1) := by decide +kernel
theorem dX5_removeLast_8 : decode cX5_removeLast 8 = .ok (.dup, 1) := by decide +kernel
theorem dX5_removeLast_9 : decode cX5_removeLast 9 = .ok (.getfield 15, 3) := by decide +kernel
theorem dX5_removeLast_12 : decode cX5_removeLast 12 = .ok (.iconst 1, 1) := by decide +kernel
theorem dX5_removeLast_13 : decode cX5_removeLast 13 = .ok (.isub, 1) := by decide +kernel
theorem dX5_removeLast_14 : decode cX5_removeLast 14 = .ok (.putfield 15, 3) := by decide +kernel
theorem dX5_removeLast_17 : decode cX5_removeLast 17 = .ok (.return_, 1) := by decide +kernel
theorem dX5_copyFrom_0 : decode cX5_copyFrom 0 = .ok (.aload_n 0, 1) := by decide +kernel
theorem dX5_copyFrom_1 : decode cX5_copyFrom 1 = .ok (.aload_n 1, 1) := by decide +kernel
theorem dX5_copyFrom_2 : decode cX5_copyFrom 2 = .ok (.getfield 15, 3) := by decide +kernel
theorem dX5_copyFrom_5 : decode cX5_copyFrom 5 = .ok (.putfield 15, 3) := by decide +kernel
theorem dX5_copyFrom_8 : decode cX5_copyFrom 8 = .ok (.iconst 0, 1) := by decide +kernel
theorem dX5_copyFrom_9 : decode cX5_copyFrom 9 = .ok (.istore_n 2, 1) := by decide +kernel
theorem dX5_copyFrom_10 : decode cX5_copyFrom 10 = .ok (.iload_n 2, 1) := by decide +kernel
theorem dX5_copyFrom_11 : decode cX5_copyFrom 11 = .ok (.aload_n 0, 1) := by decide +kernel
theorem dX5_copyFrom_12 : decode cX5_copyFrom 12 = .ok (.getfield 15, 3) := by decide +kernel
theorem dX5_copyFrom_15 : decode cX5_copyFrom 15 = .ok (.if_icmp .ge 29, 3) := by decide +kernel
theorem dX5_copyFrom_18 : decode cX5_copyFrom 18 = .ok (.iload_n 2, 1) := by decide +kernel
theorem dX5_copyFrom_19 : decode cX5_copyFrom 19 = .ok (.aload_n 0, 1) := by decide +kernel
theorem dX5_copyFrom_20 : decode cX5_copyFrom 20 = .ok (.getfield 9, 3) := by decide +kernel
theorem dX5_copyFrom_23 : decode cX5_copyFrom 23 = .ok (.arraylength, 1) := by decide +kernel
theorem dX5_copyFrom_24 : decode cX5_copyFrom 24 = .ok (.if_icmp .ge 20, 3) := by decide +kernel
theorem dX5_copyFrom_27 : decode cX5_copyFrom 27 = .ok (.aload_n 0, 1) := by decide +kernel
theorem dX5_copyFrom_28 : decode cX5_copyFrom 28 = .ok (.getfield 9, 3) := by decide +kernel
theorem dX5_copyFrom_31 : decode cX5_copyFrom 31 = .ok (.iload_n 2, 1) := by decide +kernel
theorem dX5_copyFrom_32 : decode cX5_copyFrom 32 = .ok (.aload_n 1, 1) := by decide +kernel
theorem dX5_copyFrom_33 : decode cX5_copyFrom 33 = .ok (.iload_n 2, 1) := by decide +kernel
theorem dX5_copyFrom_34 : decode cX5_copyFrom 34 = .ok (.invokevirtual 23, 3) := by decide +kernel
theorem dX5_copyFrom_37 : decode cX5_copyFrom 37 = .ok (.iastore, 1) := by decide +kernel
theorem dX5_copyFrom_38 : decode cX5_copyFrom 38 = .ok (.iinc 2 1, 3) := by decide +kernel
theorem dX5_copyFrom_41 : decode cX5_copyFrom 41 = .ok (.goto (-31), 3) := by decide +kernel
theorem dX5_copyFrom_44 : decode cX5_copyFrom 44 = .ok (.return_, 1) := by decide +kernel
theorem dX6_init_0 : decode cX6_init 0 = .ok (.aload_n 0, 1) := by decide +kernel
theorem dX6_init_1 : decode cX6_init 1 = .ok (.invokespecial 1, 3) := by decide +kernel
theorem dX6_init_4 : decode cX6_init 4 = .ok (.aload_n 0, 1) := by decide +kernel
theorem dX6_init_5 : decode cX6_init 5 = .ok (.new 7, 3) := by decide +kernel
theorem dX6_init_8 : decode cX6_init 8 = .ok (.dup, 1) := by decide +kernel
theorem dX6_init_9 : decode cX6_init 9 = .ok (.invokespecial 9, 3) := by decide +kernel
theorem dX6_init_12 : decode cX6_init 12 = .ok (.putfield 10, 3) := by decide +kernel
theorem dX6_init_15 : decode cX6_init 15 = .ok (.aload_n 0, 1) := by decide +kernel
theorem dX6_init_16 : decode cX6_init 16 = .ok (.bipush 20, 2) := by decide +kernel
theorem dX6_init_18 : decode cX6_init 18 = .ok (.newarray .int, 2) := by decide +kernel
theorem dX6_init_20 : decode cX6_init 20 = .ok (.putfield 16, 3) := by decide +kernel
theorem dX6_init_23 : decode cX6_init 23 = .ok (.aload_n 0, 1) := by decide +kernel
theorem dX6_init_24 : decode cX6_init 24 = .ok (.new 20, 3) := by decide +kernel
theorem dX6_init_27 : decode cX6_init 27 = .ok (.dup, 1) := by decide +kernel
theorem dX6_init_28 : decode cX6_init 28 = .ok (.invokespecial 22, 3) := by decide +kernel
theorem dX6_init_31 : decode cX6_init 31 = .ok (.putfield 23, 3) := by decide +kernel
theorem dX6_init_34 : decode cX6_init 34 = .ok (.aload_n 0, 1) := by decide +kernel
theorem dX6_init_35 : decode cX6_init 35 = .ok (.new 20, 3) := by decide +kernel
theorem dX6_init_38 : decode cX6_init 38 = .ok (.dup, 1) := by decide +kernel
theorem dX6_init_39 : decode cX6_init 39 = .ok (.invokespecial 22, 3) := by decide +kernel
theorem dX6_init_42 : decode cX6_init 42 = .ok (.putfield 27, 3) := by decide +kernel
theorem dX6_init_45 : decode cX6_init 45 = .ok (.aload_n 0, 1) := by decide +kernel
theorem dX6_init_46 : decode cX6_init 46 = .ok (.new 20, 3) := by decide +kernel
theorem dX6_init_49 : decode cX6_init 49 = .ok (.dup, 1) := by decide +kernel
theorem dX6_init_50 : decode cX6_init 50 = .ok (.invokespecial 22, 3) := by decide +kernel
theorem dX6_init_53 : decode cX6_init 53 = .ok (.putfield 30, 3) := by decide +kernel
theorem dX6_init_56 : decode cX6_init 56 = .ok (.return_, 1) := by decide +kernel
theorem dX6_addSignal_0 : decode cX6_addSignal 0 = .ok (.iload_n 1, 1) := by decide +kernel
theorem dX6_addSignal_1 : decode cX6_addSignal 1 = .ok (.invokestatic 33, 3) := by decide +kernel
theorem dX6_addSignal_4 : decode cX6_addSignal 4 = .ok (.iconst 1, 1) := by decide +kernel
theorem dX6_addSignal_5 : decode cX6_addSignal 5 = .ok (.bipush 6, 2) := by decide +kernel
theorem dX6_addSignal_7 : decode cX6_addSignal 7 = .ok (.invokestatic 39, 3) := by decide +kernel
theorem dX6_addSignal_10 : decode cX6_addSignal 10 = .ok (.ifCond .ne 13, 3) := by decide +kernel
theorem dX6_addSignal_13 : decode cX6_addSignal 13 = .ok (.new 43, 3) := by decide +kernel
theorem dX6_addSignal_16 : decode cX6_addSignal 16 = .ok (.dup, 1) := by decide +kernel
theorem dX6_addSignal_17 : decode cX6_addSignal 17 = .ok (.ldc 45, 2) := by decide +kernel
theorem dX6_addSignal_19 : decode cX6_addSignal 19 = .ok (.invokespecial 47, 3) := by decide +kernel
theorem dX6_addSignal_22 : decode cX6_addSignal 22 = .ok (.athrow, 1) := by decide +kernel
theorem dX6_addSignal_23 : decode cX6_addSignal 23 = .ok (.aload_n 0, 1) := by decide +kernel
theorem dX6_addSignal_24 : decode cX6_addSignal 24 = .ok (.getfield 10, 3) := by decide +kernel
theorem dX6_addSignal_27 : decode cX6_addSignal 27 = .ok (.invokevirtual 50, 3) := by decide +kernel
theorem dX6_addSignal_30 : decode cX6_addSignal 30 = .ok (.ifCond .ne 14, 3) := by decide +kernel
theorem dX6_addSignal_33 : decode cX6_addSignal 33 = .ok (.aload_n 0, 1) := by decide +kernel
theorem dX6_addSignal_34 : decode cX6_addSignal 34 = .ok (.getfield 10, 3) := by decide +kernel
theorem dX6_addSignal_37 : decode cX6_addSignal 37 = .ok (.iload_n 1, 1) := by decide +kernel
theorem dX6_addSignal_38 : decode cX6_addSignal 38 = .ok (.invokevirtual 54, 3) := by decide +kernel
theorem dX6_addSignal_41 : decode cX6_addSignal 41 = .ok (.ifCond .eq 13, 3) := by decide +kernel
theorem dX6_addSignal_44 : decode cX6_addSignal 44 = .ok (.new 58, 3) := by decide +kernel
theorem dX6_addSignal_47 : decode cX6_addSignal 47 = .ok (.dup, 1) := by decide +kernel
theorem dX6_addSignal_48 : decode cX6_addSignal 48 = .ok (.ldc 60, 2) := by decide +kernel
theorem dX6_addSignal_50 : decode cX6_addSignal 50 = .ok (.invokespecial 62, 3) := by decide +kernel
theorem dX6_addSignal_53 : decode cX6_addSignal 53 = .ok (.athrow, 1) := by decide +kernel
theorem dX6_addSignal_54 : decode cX6_addSignal 54 = .ok (.aload_n 0, 1) := by decide +kernel
theorem dX6_addSignal_55 : decode cX6_addSignal 55 = .ok (.getfield 10, 3) := by decide +kernel
theorem dX6_addSignal_58 : decode cX6_addSignal 58 = .ok (.iload_n 1, 1) := by decide +kernel
theorem dX6_addSignal_59 : decode cX6_addSignal 59 = .ok (.invokevirtual 63, 3) := by decide +kernel
theorem dX6_addSignal_62 : decode cX6_addSignal 62 = .ok (.ireturn, 1) := by decide +kernel
theorem dX6_read_0 : decode cX6_read 0 = .ok (.iload_n 1, 1) := by decide +kernel
theorem dX6_read_1 : decode cX6_read 1 = .ok (.invokestatic 33, 3) := by decide +kernel
theorem dX6_read_4 : decode cX6_read 4 = .ok (.iconst 0, 1) := by decide +kernel
theorem dX6_read_5 : decode cX6_read 5 = .ok (.bipush 9, 2) := by decide +kernel
theorem dX6_read_7 : decode cX6_read 7 = .ok (.invokestatic 39, 3) := by decide +kernel
theorem dX6_read_10 : decode cX6_read 10 = .ok (.ifCond .ne 13, 3) := by decide +kernel
theorem dX6_read_13 : decode cX6_read 13 = .ok (.new 43, 3) := by decide +kernel
theorem dX6_read_16 : decode cX6_read 16 = .ok (.dup, 1) := by decide +kernel
theorem dX6_read_17 : decode cX6_read 17 = .ok (.ldc 66, 2) := by decide +kernel
theorem dX6_read_19 : decode cX6_read 19 = .ok (.invokespecial 47, 3) := by decide +kernel
theorem dX6_read_22 : decode cX6_read 22 = .ok (.athrow, 1) := by decide +kernel
theorem dX6_read_23 : decode cX6_read 23 = .ok (.iload_n 2, 1) := by decide +kernel
theorem dX6_read_24 : decode cX6_read 24 = .ok (.iconst 3, 1) := by decide +kernel
theorem dX6_read_25 : decode cX6_read 25 = .ok (.invokestatic 68, 3) := by decide +kernel
theorem dX6_read_28 : decode cX6_read 28 = .ok (.ifCond .ne 13, 3) := by decide +kernel
theorem dX6_read_31 : decode cX6_read 31 = .ok (.new 72, 3) := by decide +kernel
theorem dX6_read_34 : decode cX6_read 34 = .ok (.dup, 1) := by decide +kernel
theorem dX6_read_35 : decode cX6_read 35 = .ok (.ldc 74, 2) := by decide +kernel
theorem dX6_read_37 : decode cX6_read 37 = .ok (.invokespecial 76, 3) := by decide +kernel
theorem dX6_read_40 : decode cX6_read 40 = .ok (.athrow, 1) := by decide +kernel
theorem dX6_read_41 : decode cX6_read 41 = .ok (.aload_n 0, 1) := by decide +kernel
theorem dX6_read_42 : decode cX6_read 42 = .ok (.getfield 10, 3) := by decide +kernel
theorem dX6_read_45 : decode cX6_read 45 = .ok (.iload_n 1, 1) := by decide +kernel
theorem dX6_read_46 : decode cX6_read 46 = .ok (.iload_n 2, 1) := by decide +kernel
theorem dX6_read_47 : decode cX6_read 47 = .ok (.invokevirtual 77, 3) := by decide +kernel
theorem dX6_read_50 : decode cX6_read 50 = .ok (.ireturn, 1) := by decide +kernel
theorem dX6_heard_0 : decode cX6_heard 0 = .ok (.iload_n 1, 1) := by decide +kernel
theorem dX6_heard_1 : decode cX6_heard 1 = .ok (.aload_n 0, 1) := by decide +kernel
theorem dX6_heard_2 : decode cX6_heard 2 = .ok (.getfield 10, 3) := by decide +kernel
theorem dX6_heard_5 : decode cX6_heard 5 = .ok (.getfield 81, 3) := by decide +kernel
theorem dX6_heard_8 : decode cX6_heard 8 = .ok (.invokestatic 68, 3) := by decide +kernel
theorem dX6_heard_11 : decode cX6_heard 11 = .ok (.ifCond .ne 13, 3) := by decide +kernel
theorem dX6_heard_14 : decode cX6_heard 14 = .ok (.new 72, 3) := by decide +kernel
theorem dX6_heard_17 : decode cX6_heard 17 = .ok (.dup, 1) := by decide +kernel
theorem dX6_heard_18 : decode cX6_heard 18 = .ok (.ldc 85, 2) := by decide +kernel
theorem dX6_heard_20 : decode cX6_heard 20 = .ok (.invokespecial 76, 3) := by decide +kernel
theorem dX6_heard_23 : decode cX6_heard 23 = .ok (.athrow, 1) := by decide +kernel
theorem dX6_heard_24 : decode cX6_heard 24 = .ok (.aload_n 0, 1) := by decide +kernel
theorem dX6_heard_25 : decode cX6_heard 25 = .ok (.aload_n 0, 1) := by decide +kernel
theorem dX6_heard_26 : decode cX6_heard 26 = .ok (.getfield 10, 3) := by decide +kernel
theorem dX6_heard_29 : decode cX6_heard 29 = .ok (.iload_n 1, 1) := by decide +kernel
theorem dX6_heard_30 : decode cX6_heard 30 = .ok (.invokevirtual 87, 3) := by decide +kernel
theorem dX6_heard_33 : decode cX6_heard 33 = .ok (.aload_n 0, 1) := by decide +kernel
theorem dX6_heard_34 : decode cX6_heard 34 = .ok (.getfield 23, 3) := by decide +kernel
theorem dX6_heard_37 : decode cX6_heard 37 = .ok (.getfield 90, 3) := by decide +kernel
theorem dX6_heard_40 : decode cX6_heard 40 = .ok (.invokevirtual 93, 3) := by decide +kernel
theorem dX6_heard_43 : decode cX6_heard 43 = .ok (.ireturn, 1) := by decide +kernel
theorem dX6_safe_0 : decode cX6_safe 0 = .ok (.iload_n 1, 1) := by decide +kernel
theorem dX6_safe_1 : decode cX6_safe 1 = .ok (.aload_n 0, 1) := by decide +kernel
theorem dX6_safe_2 : decode cX6_safe 2 = .ok (.getfield 10, 3) := by decide +kernel
theorem dX6_safe_5 : decode cX6_safe 5 = .ok (.getfield 81, 3) := by decide +kernel
theorem dX6_safe_8 : decode cX6_safe 8 = .ok (.invokestatic 68, 3) := by decide +kernel
theorem dX6_safe_11 : decode cX6_safe 11 = .ok (.ifCond .ne 13, 3) := by decide +kernel
theorem dX6_safe_14 : decode cX6_safe 14 = .ok (.new 72, 3) := by decide +kernel
theorem dX6_safe_17 : decode cX6_safe 17 = .ok (.dup, 1) := by decide +kernel
theorem dX6_safe_18 : decode cX6_safe 18 = .ok (.ldc 85, 2) := by decide +kernel
theorem dX6_safe_20 : decode cX6_safe 20 = .ok (.invokespecial 76, 3) := by decide +kernel
theorem dX6_safe_23 : decode cX6_safe 23 = .ok (.athrow, 1) := by decide +kernel
theorem dX6_safe_24 : decode cX6_safe 24 = .ok (.aload_n 0, 1) := by decide +kernel
theorem dX6_safe_25 : decode cX6_safe 25 = .ok (.getfield 10, 3) := by decide +kernel
theorem dX6_safe_28 : decode cX6_safe 28 = .ok (.aload_n 0, 1) := by decide +kernel
theorem dX6_safe_29 : decode cX6_safe 29 = .ok (.getfield 10, 3) := by decide +kernel
theorem dX6_safe_32 : decode cX6_safe 32 = .ok (.iload_n 1, 1) := by decide +kernel
theorem dX6_safe_33 : decode cX6_safe 33 = .ok (.invokevirtual 87, 3) := by decide +kernel
theorem dX6_safe_36 : decode cX6_safe 36 = .ok (.invokevirtual 96, 3) := by decide +kernel
theorem dX6_safe_39 : decode cX6_safe 39 = .ok (.ireturn, 1) := by decide +kernel
theorem dX6_rows_0 : decode cX6_rows 0 = .ok (.iload_n 1, 1) := by decide +kernel
theorem dX6_rows_1 : decode cX6_rows 1 = .ok (.iconst 0, 1) := by decide +kernel
theorem dX6_rows_2 : decode cX6_rows 2 = .ok (.bipush 20, 2) := by decide +kernel
theorem dX6_rows_4 : decode cX6_rows 4 = .ok (.invokestatic 39, 3) := by decide +kernel
theorem dX6_rows_7 : decode cX6_rows 7 = .ok (.ifCond .ne 13, 3) := by decide +kernel
theorem dX6_rows_10 : decode cX6_rows 10 = .ok (.new 43, 3) := by decide +kernel
theorem dX6_rows_13 : decode cX6_rows 13 = .ok (.dup, 1) := by decide +kernel
theorem dX6_rows_14 : decode cX6_rows 14 = .ok (.ldc 99, 2) := by decide +kernel
theorem dX6_rows_16 : decode cX6_rows 16 = .ok (.invokespecial 47, 3) := by decide +kernel
theorem dX6_rows_19 : decode cX6_rows 19 = .ok (.athrow, 1) := by decide +kernel
theorem dX6_rows_20 : decode cX6_rows 20 = .ok (.aload_n 0, 1) := by decide +kernel
theorem dX6_rows_21 : decode cX6_rows 21 = .ok (.getfield 10, 3) := by decide +kernel
theorem dX6_rows_24 : decode cX6_rows 24 = .ok (.iload_n 1, 1) := by decide +kernel
theorem dX6_rows_25 : decode cX6_rows 25 = .ok (.invokevirtual 101, 3) := by decide +kernel
theorem dX6_rows_28 : decode cX6_rows 28 = .ok (.ireturn, 1) := by decide +kernel
theorem dX6_setFog_0 : decode cX6_setFog 0 = .ok (.iload_n 1, 1) := by decide +kernel
theorem dX6_setFog_1 : decode cX6_setFog 1 = .ok (.aload_n 0, 1) := by decide +kernel
theorem dX6_setFog_2 : decode cX6_setFog 2 = .ok (.getfield 16, 3) := by decide +kernel
theorem dX6_setFog_5 : decode cX6_setFog 5 = .ok (.arraylength, 1) := by decide +kernel
theorem dX6_setFog_6 : decode cX6_setFog 6 = .ok (.invokestatic 68, 3) := by decide +kernel
theorem dX6_setFog_9 : decode cX6_setFog 9 = .ok (.ifCond .ne 13, 3) := by decide +kernel
theorem dX6_setFog_12 : decode cX6_setFog 12 = .ok (.new 72, 3) := by decide +kernel
theorem dX6_setFog_15 : decode cX6_setFog 15 = .ok (.dup, 1) := by decide +kernel
theorem dX6_setFog_16 : decode cX6_setFog 16 = .ok (.ldc 104, 2) := by decide +kernel
theorem dX6_setFog_18 : decode cX6_setFog 18 = .ok (.invokespecial 76, 3) := by decide +kernel
theorem dX6_setFog_21 : decode cX6_setFog 21 = .ok (.athrow, 1) := by decide +kernel
theorem dX6_setFog_22 : decode cX6_setFog 22 = .ok (.iload_n 2, 1) := by decide +kernel
theorem dX6_setFog_23 : decode cX6_setFog 23 = .ok (.iconst 0, 1) := by decide +kernel
theorem dX6_setFog_24 : decode cX6_setFog 24 = .ok (.bipush 9, 2) := by decide +kernel
theorem dX6_setFog_26 : decode cX6_setFog 26 = .ok (.invokestatic 39, 3) := by decide +kernel
theorem dX6_setFog_29 : decode cX6_setFog 29 = .ok (.ifCond .ne 13, 3) := by decide +kernel
theorem dX6_setFog_32 : decode cX6_setFog 32 = .ok (.new 43, 3) := by decide +kernel
theorem dX6_setFog_35 : decode cX6_setFog 35 = .ok (.dup, 1) := by decide +kernel
theorem dX6_setFog_36 : decode cX6_setFog 36 = .ok (.ldc 106, 2) := by decide +kernel
theorem dX6_setFog_38 : decode cX6_setFog 38 = .ok (.invokespecial 47, 3) := by decide +kernel
theorem dX6_setFog_41 : decode cX6_setFog 41 = .ok (.athrow, 1) := by decide +kernel
theorem dX6_setFog_42 : decode cX6_setFog 42 = .ok (.aload_n 0, 1) := by decide +kernel
theorem dX6_setFog_43 : decode cX6_setFog 43 = .ok (.getfield 16, 3) := by decide +kernel
theorem dX6_setFog_46 : decode cX6_setFog 46 = .ok (.iload_n 1, 1) := by decide +kernel
theorem dX6_setFog_47 : decode cX6_setFog 47 = .ok (.iaload, 1) := by decide +kernel
theorem dX6_setFog_48 : decode cX6_setFog 48 = .ok (.istore_n 3, 1) := by decide +kernel
theorem dX6_setFog_49 : decode cX6_setFog 49 = .ok (.aload_n 0, 1) := by decide +kernel
theorem dX6_setFog_50 : decode cX6_setFog 50 = .ok (.getfield 16, 3) := by decide +kernel
theorem dX6_setFog_53 : decode cX6_setFog 53 = .ok (.iload_n 1, 1) := by decide +kernel
theorem dX6_setFog_54 : decode cX6_setFog 54 = .ok (.iload_n 2, 1) := by decide +kernel
theorem dX6_setFog_55 : decode cX6_setFog 55 = .ok (.iastore, 1) := by decide +kernel
theorem dX6_setFog_56 : decode cX6_setFog 56 = .ok (.iload_n 3, 1) := by decide +kernel
theorem dX6_setFog_57 : decode cX6_setFog 57 = .ok (.ireturn, 1) := by decide +kernel
theorem dX6_rebuild_0 : decode cX6_rebuild 0 = .ok (.iload_n 1, 1) := by decide +kernel
theorem dX6_rebuild_1 : decode cX6_rebuild 1 = .ok (.iconst 4, 1) := by decide +kernel
theorem dX6_rebuild_2 : decode cX6_rebuild 2 = .ok (.bipush 30, 2) := by decide +kernel
theorem dX6_rebuild_4 : decode cX6_rebuild 4 = .ok (.invokestatic 39, 3) := by decide +kernel
theorem dX6_rebuild_7 : decode cX6_rebuild 7 = .ok (.ifCond .eq 15, 3) := by decide +kernel
theorem dX6_rebuild_10 : decode cX6_rebuild 10 = .ok (.iload_n 2, 1) := by decide +kernel
theorem dX6_rebuild_11 : decode cX6_rebuild 11 = .ok (.bipush 10, 2) := by decide +kernel
theorem dX6_rebuild_13 : decode cX6_rebuild 13 = .ok (.sipush 500, 3) := by decide +kernel
theorem dX6_rebuild_16 : decode cX6_rebuild 16 = .ok (.invokestatic 39, 3) := by decide +kernel
theorem dX6_rebuild_19 : decode cX6_rebuild 19 = .ok (.ifCond .ne 13, 3) := by decide +kernel
theorem dX6_rebuild_22 : decode cX6_rebuild 22 = .ok (.new 43, 3) := by decide +kernel
theorem dX6_rebuild_25 : decode cX6_rebuild 25 = .ok (.dup, 1) := by decide +kernel
theorem dX6_rebuild_26 : decode cX6_rebuild 26 = .ok (.ldc 108, 2) := by decide +kernel
theorem dX6_rebuild_28 : decode cX6_rebuild 28 = .ok (.invokespecial 47, 3) := by decide +kernel
theorem dX6_rebuild_31 : decode cX6_rebuild 31 = .ok (.athrow, 1) := by decide +kernel
theorem dX6_rebuild_32 : decode cX6_rebuild 32 = .ok (.aload_n 0, 1) := by decide +kernel
theorem dX6_rebuild_33 : decode cX6_rebuild 33 = .ok (.getfield 23, 3) := by decide +kernel
theorem dX6_rebuild_36 : decode cX6_rebuild 36 = .ok (.getfield 110, 3) := by decide +kernel
theorem dX6_rebuild_39 : decode cX6_rebuild 39 = .ok (.getfield 114, 3) := by decide +kernel
theorem dX6_rebuild_42 : decode cX6_rebuild 42 = .ok (.ifCond .le 13, 3) := by decide +kernel
theorem dX6_rebuild_45 : decode cX6_rebuild 45 = .ok (.new 58, 3) := by decide +kernel
theorem dX6_rebuild_48 : decode cX6_rebuild 48 = .ok (.dup, 1) := by decide +kernel
theorem dX6_rebuild_49 : decode cX6_rebuild 49 = .ok (.ldc 117, 2) := by decide +kernel
theorem dX6_rebuild_51 : decode cX6_rebuild 51 = .ok (.invokespecial 62, 3) := by decide +kernel
theorem dX6_rebuild_54 : decode cX6_rebuild 54 = .ok (.athrow, 1) := by decide +kernel
theorem dX6_rebuild_55 : decode cX6_rebuild 55 = .ok (.aload_n 0, 1) := by decide +kernel
theorem dX6_rebuild_56 : decode cX6_rebuild 56 = .ok (.getfield 23, 3) := by decide +kernel
theorem dX6_rebuild_59 : decode cX6_rebuild 59 = .ok (.getfield 119, 3) := by decide +kernel
theorem dX6_rebuild_62 : decode cX6_rebuild 62 = .ok (.istore_n 3, 1) := by decide +kernel
theorem dX6_rebuild_63 : decode cX6_rebuild 63 = .ok (.aload_n 0, 1) := by decide +kernel
theorem dX6_rebuild_64 : decode cX6_rebuild 64 = .ok (.getfield 23, 3) := by decide +kernel
theorem dX6_rebuild_67 : decode cX6_rebuild 67 = .ok (.iload_n 1, 1) := by decide +kernel
theorem dX6_rebuild_68 : decode cX6_rebuild 68 = .ok (.putfield 122, 3) := by decide +kernel
theorem dX6_rebuild_71 : decode cX6_rebuild 71 = .ok (.aload_n 0, 1) := by decide +kernel
theorem dX6_rebuild_72 : decode cX6_rebuild 72 = .ok (.getfield 23, 3) := by decide +kernel
theorem dX6_rebuild_75 : decode cX6_rebuild 75 = .ok (.iload_n 2, 1) := by decide +kernel
theorem dX6_rebuild_76 : decode cX6_rebuild 76 = .ok (.putfield 119, 3) := by decide +kernel
theorem dX6_rebuild_79 : decode cX6_rebuild 79 = .ok (.iload_n 3, 1) := by decide +kernel
theorem dX6_rebuild_80 : decode cX6_rebuild 80 = .ok (.ireturn, 1) := by decide +kernel
theorem dX6_setToll_0 : decode cX6_setToll 0 = .ok (.iload_n 1, 1) := by decide +kernel
theorem dX6_setToll_1 : decode cX6_setToll 1 = .ok (.iconst 0, 1) := by decide +kernel
theorem dX6_setToll_2 : decode cX6_setToll 2 = .ok (.bipush 9, 2) := by decide +kernel
theorem dX6_setToll_4 : decode cX6_setToll 4 = .ok (.invokestatic 39, 3) := by decide +kernel
theorem dX6_setToll_7 : decode cX6_setToll 7 = .ok (.ifCond .eq 13, 3) := by decide +kernel
theorem dX6_setToll_10 : decode cX6_setToll 10 = .ok (.iload_n 2, 1) := by decide +kernel
theorem dX6_setToll_11 : decode cX6_setToll 11 = .ok (.iconst 0, 1) := by decide +kernel
theorem dX6_setToll_12 : decode cX6_setToll 12 = .ok (.bipush 9, 2) := by decide +kernel
theorem dX6_setToll_14 : decode cX6_setToll 14 = .ok (.invokestatic 39, 3) := by decide +kernel
theorem dX6_setToll_17 : decode cX6_setToll 17 = .ok (.ifCond .ne 13, 3) := by decide +kernel
theorem dX6_setToll_20 : decode cX6_setToll 20 = .ok (.new 43, 3) := by decide +kernel
theorem dX6_setToll_23 : decode cX6_setToll 23 = .ok (.dup, 1) := by decide +kernel
theorem dX6_setToll_24 : decode cX6_setToll 24 = .ok (.ldc 125, 2) := by decide +kernel
theorem dX6_setToll_26 : decode cX6_setToll 26 = .ok (.invokespecial 47, 3) := by decide +kernel
theorem dX6_setToll_29 : decode cX6_setToll 29 = .ok (.athrow, 1) := by decide +kernel
theorem dX6_setToll_30 : decode cX6_setToll 30 = .ok (.bipush 10, 2) := by decide +kernel
theorem dX6_setToll_32 : decode cX6_setToll 32 = .ok (.aload_n 0, 1) := by decide +kernel
theorem dX6_setToll_33 : decode cX6_setToll 33 = .ok (.getfield 23, 3) := by decide +kernel
theorem dX6_setToll_36 : decode cX6_setToll 36 = .ok (.getfield 127, 3) := by decide +kernel
theorem dX6_setToll_39 : decode cX6_setToll 39 = .ok (.imul, 1) := by decide +kernel
theorem dX6_setToll_40 : decode cX6_setToll 40 = .ok (.aload_n 0, 1) := by decide +kernel
theorem dX6_setToll_41 : decode cX6_setToll 41 = .ok (.getfield 23, 3) := by decide +kernel
theorem dX6_setToll_44 : decode cX6_setToll 44 = .ok (.getfield 130, 3) := by decide +kernel
theorem dX6_setToll_47 : decode cX6_setToll 47 = .ok (.iadd, 1) := by decide +kernel
theorem dX6_setToll_48 : decode cX6_setToll 48 = .ok (.istore_n 3, 1) := by decide +kernel
theorem dX6_setToll_49 : decode cX6_setToll 49 = .ok (.aload_n 0, 1) := by decide +kernel
theorem dX6_setToll_50 : decode cX6_setToll 50 = .ok (.getfield 23, 3) := by decide +kernel
theorem dX6_setToll_53 : decode cX6_setToll 53 = .ok (.iload_n 1, 1) := by decide +kernel
theorem dX6_setToll_54 : decode cX6_setToll 54 = .ok (.putfield 127, 3) := by decide +kernel
theorem dX6_setToll_57 : decode cX6_setToll 57 = .ok (.aload_n 0, 1) := by decide +kernel
theorem dX6_setToll_58 : decode cX6_setToll 58 = .ok (.getfield 23, 3) := by decide +kernel
theorem dX6_setToll_61 : decode cX6_setToll 61 = .ok (.iload_n 2, 1) := by decide +kernel
theorem dX6_setToll_62 : decode cX6_setToll 62 = .ok (.putfield 130, 3) := by decide +kernel
theorem dX6_setToll_65 : decode cX6_setToll 65 = .ok (.iload_n 3, 1) := by decide +kernel
theorem dX6_setToll_66 : decode cX6_setToll 66 = .ok (.ireturn, 1) := by decide +kernel
theorem dX6_change_0 : decode cX6_change 0 = .ok (.aload_n 0, 1) := by decide +kernel
theorem dX6_change_1 : decode cX6_change 1 = .ok (.getfield 23, 3) := by decide +kernel
theorem dX6_change_4 : decode cX6_change 4 = .ok (.invokevirtual 133, 3) := by decide +kernel
theorem dX6_change_7 : decode cX6_change 7 = .ok (.aload_n 0, 1) := by decide +kernel
theorem dX6_change_8 : decode cX6_change 8 = .ok (.getfield 23, 3) := by decide +kernel
theorem dX6_change_11 : decode cX6_change 11 = .ok (.getfield 136, 3) := by decide +kernel
theorem dX6_change_14 : decode cX6_change 14 = .ok (.ireturn, 1) := by decide +kernel
theorem dX6_come_0 : decode cX6_come 0 = .ok (.iload_n 1, 1) := by decide +kernel
theorem dX6_come_1 : decode cX6_come 1 = .ok (.iconst 2, 1) := by decide +kernel
theorem dX6_come_2 : decode cX6_come 2 = .ok (.invokestatic 68, 3) := by decide +kernel
theorem dX6_come_5 : decode cX6_come 5 = .ok (.ifCond .eq 44, 3) := by decide +kernel
theorem dX6_come_8 : decode cX6_come 8 = .ok (.iload_n 2, 1) := by decide +kernel
theorem dX6_come_9 : decode cX6_come 9 = .ok (.iconst 1, 1) := by decide +kernel
theorem dX6_come_10 : decode cX6_come 10 = .ok (.iconst 4, 1) := by decide +kernel
theorem dX6_come_11 : decode cX6_come 11 = .ok (.invokestatic 39, 3) := by decide +kernel
theorem dX6_come_14 : decode cX6_come 14 = .ok (.ifCond .eq 35, 3) := by decide +kernel
theorem dX6_come_17 : decode cX6_come 17 = .ok (.iload_n 3, 1) := by decide +kernel
theorem dX6_come_18 : decode cX6_come 18 = .ok (.iconst 1, 1) := by decide +kernel
theorem dX6_come_19 : decode cX6_come 19 = .ok (.sipush 200, 3) := by decide +kernel
theorem dX6_come_22 : decode cX6_come 22 = .ok (.invokestatic 39, 3) := by decide +kernel
theorem dX6_come_25 : decode cX6_come 25 = .ok (.ifCond .eq 24, 3) := by decide +kernel
theorem dX6_come_28 : decode cX6_come 28 = .ok (.iload 4, 2) := by decide +kernel
theorem dX6_come_30 : decode cX6_come 30 = .ok (.iconst 1, 1) := by decide +kernel
theorem dX6_come_31 : decode cX6_come 31 = .ok (.iconst 3, 1) := by decide +kernel
theorem dX6_come_32 : decode cX6_come 32 = .ok (.invokestatic 39, 3) := by decide +kernel
theorem dX6_come_35 : decode cX6_come 35 = .ok (.ifCond .eq 14, 3) := by decide +kernel
theorem dX6_come_38 : decode cX6_come 38 = .ok (.iload 5, 2) := by decide +kernel
theorem dX6_come_40 : decode cX6_come 40 = .ok (.iconst 0, 1) := by decide +kernel
theorem dX6_come_41 : decode cX6_come 41 = .ok (.bipush 100, 2) := by decide +kernel
theorem dX6_come_43 : decode cX6_come 43 = .ok (.invokestatic 39, 3) := by decide +kernel
theorem dX6_come_46 : decode cX6_come 46 = .ok (.ifCond .ne 13, 3) := by decide +kernel
theorem dX6_come_49 : decode cX6_come 49 = .ok (.new 43, 3) := by decide +kernel
theorem dX6_come_52 : decode cX6_come 52 = .ok (.dup, 1) := by decide +kernel
theorem dX6_come_53 : decode cX6_come 53 = .ok (.ldc 139, 2) := by decide +kernel
theorem dX6_come_55 : decode cX6_come 55 = .ok (.invokespecial 47, 3) := by decide +kernel
theorem dX6_come_58 : decode cX6_come 58 = .ok (.athrow, 1) := by decide +kernel
theorem dX6_come_59 : decode cX6_come 59 = .ok (.aload_n 0, 1) := by decide +kernel
theorem dX6_come_60 : decode cX6_come 60 = .ok (.getfield 23, 3) := by decide +kernel
theorem dX6_come_63 : decode cX6_come 63 = .ok (.invokevirtual 141, 3) := by decide +kernel
theorem dX6_come_66 : decode cX6_come 66 = .ok (.astore 7, 2) := by decide +kernel
theorem dX6_come_68 : decode cX6_come 68 = .ok (.aload 7, 2) := by decide +kernel
theorem dX6_come_70 : decode cX6_come 70 = .ok (.ifnonnull 13, 3) := by decide +kernel
theorem dX6_come_73 : decode cX6_come 73 = .ok (.new 58, 3) := by decide +kernel
theorem dX6_come_76 : decode cX6_come 76 = .ok (.dup, 1) := by decide +kernel
theorem dX6_come_77 : decode cX6_come 77 = .ok (.ldc 145, 2) := by decide +kernel
theorem dX6_come_79 : decode cX6_come 79 = .ok (.invokespecial 62, 3) := by decide +kernel
theorem dX6_come_82 : decode cX6_come 82 = .ok (.athrow, 1) := by decide +kernel
theorem dX6_come_83 : decode cX6_come 83 = .ok (.aload 7, 2) := by decide +kernel
theorem dX6_come_85 : decode cX6_come 85 = .ok (.iload_n 1, 1) := by decide +kernel
theorem dX6_come_86 : decode cX6_come 86 = .ok (.putfield 147, 3) := by decide +kernel
theorem dX6_come_89 : decode cX6_come 89 = .ok (.aload 7, 2) := by decide +kernel
theorem dX6_come_91 : decode cX6_come 91 = .ok (.iload_n 2, 1) := by decide +kernel
theorem dX6_come_92 : decode cX6_come 92 = .ok (.putfield 152, 3) := by decide +kernel
theorem dX6_come_95 : decode cX6_come 95 = .ok (.aload 7, 2) := by decide +kernel
theorem dX6_come_97 : decode cX6_come 97 = .ok (.iload_n 3, 1) := by decide +kernel
theorem dX6_come_98 : decode cX6_come 98 = .ok (.putfield 155, 3) := by decide +kernel
theorem dX6_come_101 : decode cX6_come 101 = .ok (.aload 7, 2) := by decide +kernel
theorem dX6_come_103 : decode cX6_come 103 = .ok (.iload 4, 2) := by decide +kernel
theorem dX6_come_105 : decode cX6_come 105 = .ok (.putfield 158, 3) := by decide +kernel
theorem dX6_come_108 : decode cX6_come 108 = .ok (.aload 7, 2) := by decide +kernel
theorem dX6_come_110 : decode cX6_come 110 = .ok (.iload 5, 2) := by decide +kernel
theorem dX6_come_112 : decode cX6_come 112 = .ok (.putfield 161, 3) := by decide +kernel
theorem dX6_come_115 : decode cX6_come 115 = .ok (.aload 7, 2) := by decide +kernel
theorem dX6_come_117 : decode cX6_come 117 = .ok (.iload 6, 2) := by decide +kernel
theorem dX6_come_119 : decode cX6_come 119 = .ok (.putfield 164, 3) := by decide +kernel
theorem dX6_come_122 : decode cX6_come 122 = .ok (.aload_n 0, 1) := by decide +kernel
theorem dX6_come_123 : decode cX6_come 123 = .ok (.getfield 23, 3) := by decide +kernel
theorem dX6_come_126 : decode cX6_come 126 = .ok (.iload_n 1, 1) := by decide +kernel
theorem dX6_come_127 : decode cX6_come 127 = .ok (.invokevirtual 168, 3) := by decide +kernel
theorem dX6_come_130 : decode cX6_come 130 = .ok (.getfield 172, 3) := by decide +kernel
theorem dX6_come_133 : decode cX6_come 133 = .ok (.aload 7, 2) := by decide +kernel
theorem dX6_come_135 : decode cX6_come 135 = .ok (.getfield 177, 3) := by decide +kernel
theorem dX6_come_138 : decode cX6_come 138 = .ok (.invokevirtual 180, 3) := by decide +kernel
theorem dX6_come_141 : decode cX6_come 141 = .ok (.aload 7, 2) := by decide +kernel
theorem dX6_come_143 : decode cX6_come 143 = .ok (.getfield 177, 3) := by decide +kernel
theorem dX6_come_146 : decode cX6_come 146 = .ok (.ireturn, 1) := by decide +kernel
theorem dX6_cart_0 : decode cX6_cart 0 = .ok (.aload_n 0, 1) := by decide +kernel
theorem dX6_cart_1 : decode cX6_cart 1 = .ok (.getfield 23, 3) := by decide +kernel
theorem dX6_cart_4 : decode cX6_cart 4 = .ok (.iload_n 1, 1) := by decide +kernel
theorem dX6_cart_5 : decode cX6_cart 5 = .ok (.invokevirtual 184, 3) := by decide +kernel
theorem dX6_cart_8 : decode cX6_cart 8 = .ok (.astore_n 3, 1) := by decide +kernel
theorem dX6_cart_9 : decode cX6_cart 9 = .ok (.aload_n 3, 1) := by decide +kernel
theorem dX6_cart_10 : decode cX6_cart 10 = .ok (.ifnull 12, 3) := by decide +kernel
theorem dX6_cart_13 : decode cX6_cart 13 = .ok (.iload_n 2, 1) := by decide +kernel
theorem dX6_cart_14 : decode cX6_cart 14 = .ok (.bipush 9, 2) := by decide +kernel
theorem dX6_cart_16 : decode cX6_cart 16 = .ok (.invokestatic 68, 3) := by decide +kernel
theorem dX6_cart_19 : decode cX6_cart 19 = .ok (.ifCond .ne 13, 3) := by decide +kernel
theorem dX6_cart_22 : decode cX6_cart 22 = .ok (.new 72, 3) := by decide +kernel
theorem dX6_cart_25 : decode cX6_cart 25 = .ok (.dup, 1) := by decide +kernel
theorem dX6_cart_26 : decode cX6_cart 26 = .ok (.ldc 188, 2) := by decide +kernel
theorem dX6_cart_28 : decode cX6_cart 28 = .ok (.invokespecial 76, 3) := by decide +kernel
theorem dX6_cart_31 : decode cX6_cart 31 = .ok (.athrow, 1) := by decide +kernel
theorem dX6_cart_32 : decode cX6_cart 32 = .ok (.aload_n 0, 1) := by decide +kernel
theorem dX6_cart_33 : decode cX6_cart 33 = .ok (.getfield 23, 3) := by decide +kernel
theorem dX6_cart_36 : decode cX6_cart 36 = .ok (.aload_n 3, 1) := by decide +kernel
theorem dX6_cart_37 : decode cX6_cart 37 = .ok (.iload_n 2, 1) := by decide +kernel
theorem dX6_cart_38 : decode cX6_cart 38 = .ok (.invokevirtual 190, 3) := by decide +kernel
theorem dX6_cart_41 : decode cX6_cart 41 = .ok (.ireturn, 1) := by decide +kernel
theorem dX6_queue_0 : decode cX6_queue 0 = .ok (.iload_n 1, 1) := by decide +kernel
theorem dX6_queue_1 : decode cX6_queue 1 = .ok (.iconst 2, 1) := by decide +kernel
theorem dX6_queue_2 : decode cX6_queue 2 = .ok (.invokestatic 68, 3) := by decide +kernel
theorem dX6_queue_5 : decode cX6_queue 5 = .ok (.ifCond .eq 24, 3) := by decide +kernel
theorem dX6_queue_8 : decode cX6_queue 8 = .ok (.iload_n 2, 1) := by decide +kernel
theorem dX6_queue_9 : decode cX6_queue 9 = .ok (.aload_n 0, 1) := by decide +kernel
theorem dX6_queue_10 : decode cX6_queue 10 = .ok (.getfield 23, 3) := by decide +kernel
theorem dX6_queue_13 : decode cX6_queue 13 = .ok (.iload_n 1, 1) := by decide +kernel
theorem dX6_queue_14 : decode cX6_queue 14 = .ok (.invokevirtual 168, 3) := by decide +kernel
theorem dX6_queue_17 : decode cX6_queue 17 = .ok (.getfield 172, 3) := by decide +kernel
theorem dX6_queue_20 : decode cX6_queue 20 = .ok (.getfield 114, 3) := by decide +kernel
theorem dX6_queue_23 : decode cX6_queue 23 = .ok (.invokestatic 68, 3) := by decide +kernel
theorem dX6_queue_26 : decode cX6_queue 26 = .ok (.ifCond .ne 13, 3) := by decide +kernel
theorem dX6_queue_29 : decode cX6_queue 29 = .ok (.new 72, 3) := by decide +kernel
theorem dX6_queue_32 : decode cX6_queue 32 = .ok (.dup, 1) := by decide +kernel
theorem dX6_queue_33 : decode cX6_queue 33 = .ok (.ldc 194, 2) := by decide +kernel
theorem dX6_queue_35 : decode cX6_queue 35 = .ok (.invokespecial 76, 3) := by decide +kernel
theorem dX6_queue_38 : decode cX6_queue 38 = .ok (.athrow, 1) := by decide +kernel
theorem dX6_queue_39 : decode cX6_queue 39 = .ok (.aload_n 0, 1) := by decide +kernel
theorem dX6_queue_40 : decode cX6_queue 40 = .ok (.getfield 23, 3) := by decide +kernel
theorem dX6_queue_43 : decode cX6_queue 43 = .ok (.iload_n 1, 1) := by decide +kernel
theorem dX6_queue_44 : decode cX6_queue 44 = .ok (.invokevirtual 168, 3) := by decide +kernel
theorem dX6_queue_47 : decode cX6_queue 47 = .ok (.getfield 172, 3) := by decide +kernel
theorem dX6_queue_50 : decode cX6_queue 50 = .ok (.iload_n 2, 1) := by decide +kernel
theorem dX6_queue_51 : decode cX6_queue 51 = .ok (.invokevirtual 196, 3) := by decide +kernel
theorem dX6_queue_54 : decode cX6_queue 54 = .ok (.ireturn, 1) := by decide +kernel
theorem dX6_box_0 : decode cX6_box 0 = .ok (.iload_n 1, 1) := by decide +kernel
theorem dX6_box_1 : decode cX6_box 1 = .ok (.iconst 2, 1) := by decide +kernel
theorem dX6_box_2 : decode cX6_box 2 = .ok (.invokestatic 68, 3) := by decide +kernel
theorem dX6_box_5 : decode cX6_box 5 = .ok (.ifCond .eq 11, 3) := by decide +kernel
theorem dX6_box_8 : decode cX6_box 8 = .ok (.iload_n 2, 1) := by decide +kernel
theorem dX6_box_9 : decode cX6_box 9 = .ok (.iconst 4, 1) := by decide +kernel
theorem dX6_box_10 : decode cX6_box 10 = .ok (.invokestatic 68, 3) := by decide +kernel
theorem dX6_box_13 : decode cX6_box 13 = .ok (.ifCond .ne 13, 3) := by decide +kernel
theorem dX6_box_16 : decode cX6_box 16 = .ok (.new 72, 3) := by decide +kernel
theorem dX6_box_19 : decode cX6_box 19 = .ok (.dup, 1) := by decide +kernel
theorem dX6_box_20 : decode cX6_box 20 = .ok (.ldc 199, 2) := by decide +kernel
theorem dX6_box_22 : decode cX6_box 22 = .ok (.invokespecial 76, 3) := by decide +kernel
theorem dX6_box_25 : decode cX6_box 25 = .ok (.athrow, 1) := by decide +kernel
theorem dX6_box_26 : decode cX6_box 26 = .ok (.aload_n 0, 1) := by decide +kernel
theorem dX6_box_27 : decode cX6_box 27 = .ok (.getfield 23, 3) := by decide +kernel
theorem dX6_box_30 : decode cX6_box 30 = .ok (.iload_n 1, 1) := by decide +kernel
theorem dX6_box_31 : decode cX6_box 31 = .ok (.invokevirtual 168, 3) := by decide +kernel
theorem dX6_box_34 : decode cX6_box 34 = .ok (.iload_n 2, 1) := by decide +kernel
theorem dX6_box_35 : decode cX6_box 35 = .ok (.invokevirtual 201, 3) := by decide +kernel
theorem dX6_box_38 : decode cX6_box 38 = .ok (.ireturn, 1) := by decide +kernel
theorem dX6_empty_0 : decode cX6_empty 0 = .ok (.iload_n 1, 1) := by decide +kernel
theorem dX6_empty_1 : decode cX6_empty 1 = .ok (.iconst 2, 1) := by decide +kernel
theorem dX6_empty_2 : decode cX6_empty 2 = .ok (.invokestatic 68, 3) := by decide +kernel
theorem dX6_empty_5 : decode cX6_empty 5 = .ok (.ifCond .ne 13, 3) := by decide +kernel
theorem dX6_empty_8 : decode cX6_empty 8 = .ok (.new 72, 3) := by decide +kernel
theorem dX6_empty_11 : decode cX6_empty 11 = .ok (.dup, 1) := by decide +kernel
theorem dX6_empty_12 : decode cX6_empty 12 = .ok (.ldc 204, 2) := by decide +kernel
theorem dX6_empty_14 : decode cX6_empty 14 = .ok (.invokespecial 76, 3) := by decide +kernel
theorem dX6_empty_17 : decode cX6_empty 17 = .ok (.athrow, 1) := by decide +kernel
theorem dX6_empty_18 : decode cX6_empty 18 = .ok (.aload_n 0, 1) := by decide +kernel
theorem dX6_empty_19 : decode cX6_empty 19 = .ok (.getfield 23, 3) := by decide +kernel
theorem dX6_empty_22 : decode cX6_empty 22 = .ok (.iload_n 1, 1) := by decide +kernel
theorem dX6_empty_23 : decode cX6_empty 23 = .ok (.invokevirtual 168, 3) := by decide +kernel
theorem dX6_empty_26 : decode cX6_empty 26 = .ok (.astore_n 2, 1) := by decide +kernel
theorem dX6_empty_27 : decode cX6_empty 27 = .ok (.aload_n 2, 1) := by decide +kernel
theorem dX6_empty_28 : decode cX6_empty 28 = .ok (.getfield 206, 3) := by decide +kernel
theorem dX6_empty_31 : decode cX6_empty 31 = .ok (.istore_n 3, 1) := by decide +kernel
theorem dX6_empty_32 : decode cX6_empty 32 = .ok (.aload_n 2, 1) := by decide +kernel
theorem dX6_empty_33 : decode cX6_empty 33 = .ok (.iconst 0, 1) := by decide +kernel
theorem dX6_empty_34 : decode cX6_empty 34 = .ok (.putfield 209, 3) := by decide +kernel
theorem dX6_empty_37 : decode cX6_empty 37 = .ok (.aload_n 2, 1) := by decide +kernel
theorem dX6_empty_38 : decode cX6_empty 38 = .ok (.iconst 0, 1) := by decide +kernel
theorem dX6_empty_39 : decode cX6_empty 39 = .ok (.putfield 206, 3) := by decide +kernel
theorem dX6_empty_42 : decode cX6_empty 42 = .ok (.iload_n 3, 1) := by decide +kernel
theorem dX6_empty_43 : decode cX6_empty 43 = .ok (.ireturn, 1) := by decide +kernel
theorem dX6_pass_0 : decode cX6_pass 0 = .ok (.iload_n 1, 1) := by decide +kernel
theorem dX6_pass_1 : decode cX6_pass 1 = .ok (.iconst 1, 1) := by decide +kernel
theorem dX6_pass_2 : decode cX6_pass 2 = .ok (.sipush 200, 3) := by decide +kernel
theorem dX6_pass_5 : decode cX6_pass 5 = .ok (.invokestatic 39, 3) := by decide +kernel
theorem dX6_pass_8 : decode cX6_pass 8 = .ok (.ifCond .ne 13, 3) := by decide +kernel
theorem dX6_pass_11 : decode cX6_pass 11 = .ok (.new 43, 3) := by decide +kernel
theorem dX6_pass_14 : decode cX6_pass 14 = .ok (.dup, 1) := by decide +kernel
theorem dX6_pass_15 : decode cX6_pass 15 = .ok (.ldc 210, 2) := by decide +kernel
theorem dX6_pass_17 : decode cX6_pass 17 = .ok (.invokespecial 47, 3) := by decide +kernel
theorem dX6_pass_20 : decode cX6_pass 20 = .ok (.athrow, 1) := by decide +kernel
theorem dX6_pass_21 : decode cX6_pass 21 = .ok (.aload_n 0, 1) := by decide +kernel
theorem dX6_pass_22 : decode cX6_pass 22 = .ok (.getfield 23, 3) := by decide +kernel
theorem dX6_pass_25 : decode cX6_pass 25 = .ok (.iload_n 1, 1) := by decide +kernel
theorem dX6_pass_26 : decode cX6_pass 26 = .ok (.invokevirtual 212, 3) := by decide +kernel
theorem dX6_pass_29 : decode cX6_pass 29 = .ok (.ireturn, 1) := by decide +kernel
theorem dX6_count_0 : decode cX6_count 0 = .ok (.iload_n 1, 1) := by decide +kernel
theorem dX6_count_1 : decode cX6_count 1 = .ok (.bipush 11, 2) := by decide +kernel
theorem dX6_count_3 : decode cX6_count 3 = .ok (.invokestatic 68, 3) := by decide +kernel
theorem dX6_count_6 : decode cX6_count 6 = .ok (.ifCond .ne 13, 3) := by decide +kernel
theorem dX6_count_9 : decode cX6_count 9 = .ok (.new 72, 3) := by decide +kernel
theorem dX6_count_12 : decode cX6_count 12 = .ok (.dup, 1) := by decide +kernel
theorem dX6_count_13 : decode cX6_count 13 = .ok (.ldc 215, 2) := by decide +kernel
theorem dX6_count_15 : decode cX6_count 15 = .ok (.invokespecial 76, 3) := by decide +kernel
theorem dX6_count_18 : decode cX6_count 18 = .ok (.athrow, 1) := by decide +kernel
theorem dX6_count_19 : decode cX6_count 19 = .ok (.aload_n 0, 1) := by decide +kernel
theorem dX6_count_20 : decode cX6_count 20 = .ok (.iload_n 1, 1) := by decide +kernel
theorem dX6_count_21 : decode cX6_count 21 = .ok (.invokevirtual 217, 3) := by decide +kernel
theorem dX6_count_24 : decode cX6_count 24 = .ok (.ireturn, 1) := by decide +kernel
theorem dX6_over_0 : decode cX6_over 0 = .ok (.aload_n 0, 1) := by decide +kernel
theorem dX6_over_1 : decode cX6_over 1 = .ok (.getfield 23, 3) := by decide +kernel
theorem dX6_over_4 : decode cX6_over 4 = .ok (.iload_n 1, 1) := by decide +kernel
theorem dX6_over_5 : decode cX6_over 5 = .ok (.invokevirtual 184, 3) := by decide +kernel
theorem dX6_over_8 : decode cX6_over 8 = .ok (.ifnonnull 13, 3) := by decide +kernel
theorem dX6_over_11 : decode cX6_over 11 = .ok (.new 72, 3) := by decide +kernel
theorem dX6_over_14 : decode cX6_over 14 = .ok (.dup, 1) := by decide +kernel
theorem dX6_over_15 : decode cX6_over 15 = .ok (.ldc 220, 2) := by decide +kernel
theorem dX6_over_17 : decode cX6_over 17 = .ok (.invokespecial 76, 3) := by decide +kernel
theorem dX6_over_20 : decode cX6_over 20 = .ok (.athrow, 1) := by decide +kernel
theorem dX6_over_21 : decode cX6_over 21 = .ok (.aload_n 0, 1) := by decide +kernel
theorem dX6_over_22 : decode cX6_over 22 = .ok (.getfield 27, 3) := by decide +kernel
theorem dX6_over_25 : decode cX6_over 25 = .ok (.aload_n 0, 1) := by decide +kernel
theorem dX6_over_26 : decode cX6_over 26 = .ok (.getfield 23, 3) := by decide +kernel
theorem dX6_over_29 : decode cX6_over 29 = .ok (.invokevirtual 222, 3) := by decide +kernel
theorem dX6_over_32 : decode cX6_over 32 = .ok (.iconst 0, 1) := by decide +kernel
theorem dX6_over_33 : decode cX6_over 33 = .ok (.istore_n 2, 1) := by decide +kernel
theorem dX6_over_34 : decode cX6_over 34 = .ok (.iload_n 2, 1) := by decide +kernel
theorem dX6_over_35 : decode cX6_over 35 = .ok (.sipush 200, 3) := by decide +kernel
theorem dX6_over_38 : decode cX6_over 38 = .ok (.if_icmp .gt 31, 3) := by decide +kernel
theorem dX6_over_41 : decode cX6_over 41 = .ok (.aload_n 0, 1) := by decide +kernel
theorem dX6_over_42 : decode cX6_over 42 = .ok (.getfield 27, 3) := by decide +kernel
theorem dX6_over_45 : decode cX6_over 45 = .ok (.iload_n 1, 1) := by decide +kernel
theorem dX6_over_46 : decode cX6_over 46 = .ok (.invokevirtual 226, 3) := by decide +kernel
theorem dX6_over_49 : decode cX6_over 49 = .ok (.ifCond .eq 5, 3) := by decide +kernel
theorem dX6_over_52 : decode cX6_over 52 = .ok (.iload_n 2, 1) := by decide +kernel
theorem dX6_over_53 : decode cX6_over 53 = .ok (.ireturn, 1) := by decide +kernel
theorem dX6_over_54 : decode cX6_over 54 = .ok (.aload_n 0, 1) := by decide +kernel
theorem dX6_over_55 : decode cX6_over 55 = .ok (.getfield 27, 3) := by decide +kernel
theorem dX6_over_58 : decode cX6_over 58 = .ok (.iconst 1, 1) := by decide +kernel
theorem dX6_over_59 : decode cX6_over 59 = .ok (.invokevirtual 212, 3) := by decide +kernel
theorem dX6_over_62 : decode cX6_over 62 = .ok (.pop, 1) := by decide +kernel
theorem dX6_over_63 : decode cX6_over 63 = .ok (.iinc 2 1, 3) := by decide +kernel
theorem dX6_over_66 : decode cX6_over 66 = .ok (.goto (-32), 3) := by decide +kernel
theorem dX6_over_69 : decode cX6_over 69 = .ok (.iconst (-1), 1) := by decide +kernel
theorem dX6_over_70 : decode cX6_over 70 = .ok (.ireturn, 1) := by decide +kernel
theorem dX6_keep_0 : decode cX6_keep 0 = .ok (.aload_n 0, 1) := by decide +kernel
theorem dX6_keep_1 : decode cX6_keep 1 = .ok (.getfield 30, 3) := by decide +kernel
theorem dX6_keep_4 : decode cX6_keep 4 = .ok (.aload_n 0, 1) := by decide +kernel
theorem dX6_keep_5 : decode cX6_keep 5 = .ok (.getfield 23, 3) := by decide +kernel
theorem dX6_keep_8 : decode cX6_keep 8 = .ok (.invokevirtual 222, 3) := by decide +kernel
theorem dX6_keep_11 : decode cX6_keep 11 = .ok (.aload_n 0, 1) := by decide +kernel
theorem dX6_keep_12 : decode cX6_keep 12 = .ok (.getfield 30, 3) := by decide +kernel
theorem dX6_keep_15 : decode cX6_keep 15 = .ok (.bipush 60, 2) := by decide +kernel
theorem dX6_keep_17 : decode cX6_keep 17 = .ok (.invokevirtual 212, 3) := by decide +kernel
theorem dX6_keep_20 : decode cX6_keep 20 = .ok (.istore_n 1, 1) := by decide +kernel
theorem dX6_keep_21 : decode cX6_keep 21 = .ok (.iconst (-1), 1) := by decide +kernel
theorem dX6_keep_22 : decode cX6_keep 22 = .ok (.istore_n 2, 1) := by decide +kernel
theorem dX6_keep_23 : decode cX6_keep 23 = .ok (.iconst 0, 1) := by decide +kernel
theorem dX6_keep_24 : decode cX6_keep 24 = .ok (.istore_n 3, 1) := by decide +kernel
theorem dX6_keep_25 : decode cX6_keep 25 = .ok (.aload_n 0, 1) := by decide +kernel
theorem dX6_keep_26 : decode cX6_keep 26 = .ok (.getfield 27, 3) := by decide +kernel
theorem dX6_keep_29 : decode cX6_keep 29 = .ok (.aload_n 0, 1) := by decide +kernel
theorem dX6_keep_30 : decode cX6_keep 30 = .ok (.getfield 23, 3) := by decide +kernel
theorem dX6_keep_33 : decode cX6_keep 33 = .ok (.invokevirtual 222, 3) := by decide +kernel
theorem dX6_keep_36 : decode cX6_keep 36 = .ok (.iconst 0, 1) := by decide +kernel
theorem dX6_keep_37 : decode cX6_keep 37 = .ok (.istore 4, 2) := by decide +kernel
theorem dX6_keep_39 : decode cX6_keep 39 = .ok (.iload 4, 2) := by decide +kernel
theorem dX6_keep_41 : decode cX6_keep 41 = .ok (.bipush 60, 2) := by decide +kernel
theorem dX6_keep_43 : decode cX6_keep 43 = .ok (.if_icmp .ge 66, 3) := by decide +kernel
theorem dX6_keep_46 : decode cX6_keep 46 = .ok (.aload_n 0, 1) := by decide +kernel
theorem dX6_keep_47 : decode cX6_keep 47 = .ok (.getfield 30, 3) := by decide +kernel
theorem dX6_keep_50 : decode cX6_keep 50 = .ok (.aload_n 0, 1) := by decide +kernel
theorem dX6_keep_51 : decode cX6_keep 51 = .ok (.getfield 27, 3) := by decide +kernel
theorem dX6_keep_54 : decode cX6_keep 54 = .ok (.invokevirtual 222, 3) := by decide +kernel
theorem dX6_keep_57 : decode cX6_keep 57 = .ok (.aload_n 0, 1) := by decide +kernel
theorem dX6_keep_58 : decode cX6_keep 58 = .ok (.getfield 30, 3) := by decide +kernel
theorem dX6_keep_61 : decode cX6_keep 61 = .ok (.invokevirtual 133, 3) := by decide +kernel
theorem dX6_keep_64 : decode cX6_keep 64 = .ok (.iload_n 3, 1) := by decide +kernel
theorem dX6_keep_65 : decode cX6_keep 65 = .ok (.aload_n 0, 1) := by decide +kernel
theorem dX6_keep_66 : decode cX6_keep 66 = .ok (.getfield 30, 3) := by decide +kernel
theorem dX6_keep_69 : decode cX6_keep 69 = .ok (.bipush 60, 2) := by decide +kernel
theorem dX6_keep_71 : decode cX6_keep 71 = .ok (.iload 4, 2) := by decide +kernel
theorem dX6_keep_73 : decode cX6_keep 73 = .ok (.isub, 1) := by decide +kernel
theorem dX6_keep_74 : decode cX6_keep 74 = .ok (.invokevirtual 212, 3) := by decide +kernel
theorem dX6_keep_77 : decode cX6_keep 77 = .ok (.iadd, 1) := by decide +kernel
theorem dX6_keep_78 : decode cX6_keep 78 = .ok (.istore 5, 2) := by decide +kernel
theorem dX6_keep_80 : decode cX6_keep 80 = .ok (.iload 5, 2) := by decide +kernel
theorem dX6_keep_82 : decode cX6_keep 82 = .ok (.iload_n 1, 1) := by decide +kernel
theorem dX6_keep_83 : decode cX6_keep 83 = .ok (.if_icmp .le 9, 3) := by decide +kernel
theorem dX6_keep_86 : decode cX6_keep 86 = .ok (.iload 5, 2) := by decide +kernel
theorem dX6_keep_88 : decode cX6_keep 88 = .ok (.istore_n 1, 1) := by decide +kernel
theorem dX6_keep_89 : decode cX6_keep 89 = .ok (.iload 4, 2) := by decide +kernel
theorem dX6_keep_91 : decode cX6_keep 91 = .ok (.istore_n 2, 1) := by decide +kernel
theorem dX6_keep_92 : decode cX6_keep 92 = .ok (.iload_n 3, 1) := by decide +kernel
theorem dX6_keep_93 : decode cX6_keep 93 = .ok (.aload_n 0, 1) := by decide +kernel
theorem dX6_keep_94 : decode cX6_keep 94 = .ok (.getfield 27, 3) := by decide +kernel
theorem dX6_keep_97 : decode cX6_keep 97 = .ok (.iconst 1, 1) := by decide +kernel
theorem dX6_keep_98 : decode cX6_keep 98 = .ok (.invokevirtual 212, 3) := by decide +kernel
theorem dX6_keep_101 : decode cX6_keep 101 = .ok (.iadd, 1) := by decide +kernel
theorem dX6_keep_102 : decode cX6_keep 102 = .ok (.istore_n 3, 1) := by decide +kernel
theorem dX6_keep_103 : decode cX6_keep 103 = .ok (.iinc 4 1, 3) := by decide +kernel
theorem dX6_keep_106 : decode cX6_keep 106 = .ok (.goto (-67), 3) := by decide +kernel
theorem dX6_keep_109 : decode cX6_keep 109 = .ok (.iload_n 2, 1) := by decide +kernel
theorem dX6_keep_110 : decode cX6_keep 110 = .ok (.ireturn, 1) := by decide +kernel
theorem dX6_foresee_0 : decode cX6_foresee 0 = .ok (.iload_n 1, 1) := by decide +kernel
theorem dX6_foresee_1 : decode cX6_foresee 1 = .ok (.iconst 1, 1) := by decide +kernel
theorem dX6_foresee_2 : decode cX6_foresee 2 = .ok (.bipush 100, 2) := by decide +kernel
theorem dX6_foresee_4 : decode cX6_foresee 4 = .ok (.invokestatic 39, 3) := by decide +kernel
theorem dX6_foresee_7 : decode cX6_foresee 7 = .ok (.ifCond .ne 13, 3) := by decide +kernel
theorem dX6_foresee_10 : decode cX6_foresee 10 = .ok (.new 43, 3) := by decide +kernel
theorem dX6_foresee_13 : decode cX6_foresee 13 = .ok (.dup, 1) := by decide +kernel
theorem dX6_foresee_14 : decode cX6_foresee 14 = .ok (.ldc 229, 2) := by decide +kernel
theorem dX6_foresee_16 : decode cX6_foresee 16 = .ok (.invokespecial 47, 3) := by decide +kernel
theorem dX6_foresee_19 : decode cX6_foresee 19 = .ok (.athrow, 1) := by decide +kernel
theorem dX6_foresee_20 : decode cX6_foresee 20 = .ok (.iload_n 2, 1) := by decide +kernel
theorem dX6_foresee_21 : decode cX6_foresee 21 = .ok (.iconst 3, 1) := by decide +kernel
theorem dX6_foresee_22 : decode cX6_foresee 22 = .ok (.invokestatic 68, 3) := by decide +kernel
theorem dX6_foresee_25 : decode cX6_foresee 25 = .ok (.ifCond .ne 13, 3) := by decide +kernel
theorem dX6_foresee_28 : decode cX6_foresee 28 = .ok (.new 72, 3) := by decide +kernel
theorem dX6_foresee_31 : decode cX6_foresee 31 = .ok (.dup, 1) := by decide +kernel
theorem dX6_foresee_32 : decode cX6_foresee 32 = .ok (.ldc 74, 2) := by decide +kernel
theorem dX6_foresee_34 : decode cX6_foresee 34 = .ok (.invokespecial 76, 3) := by decide +kernel
theorem dX6_foresee_37 : decode cX6_foresee 37 = .ok (.athrow, 1) := by decide +kernel
theorem dX6_foresee_38 : decode cX6_foresee 38 = .ok (.aload_n 0, 1) := by decide +kernel
theorem dX6_foresee_39 : decode cX6_foresee 39 = .ok (.getfield 27, 3) := by decide +kernel
theorem dX6_foresee_42 : decode cX6_foresee 42 = .ok (.aload_n 0, 1) := by decide +kernel
theorem dX6_foresee_43 : decode cX6_foresee 43 = .ok (.getfield 23, 3) := by decide +kernel
theorem dX6_foresee_46 : decode cX6_foresee 46 = .ok (.invokevirtual 222, 3) := by decide +kernel
theorem dX6_foresee_49 : decode cX6_foresee 49 = .ok (.aload_n 0, 1) := by decide +kernel
theorem dX6_foresee_50 : decode cX6_foresee 50 = .ok (.getfield 27, 3) := by decide +kernel
theorem dX6_foresee_53 : decode cX6_foresee 53 = .ok (.iload_n 1, 1) := by decide +kernel
theorem dX6_foresee_54 : decode cX6_foresee 54 = .ok (.invokevirtual 212, 3) := by decide +kernel
theorem dX6_foresee_57 : decode cX6_foresee 57 = .ok (.istore_n 3, 1) := by decide +kernel
theorem dX6_foresee_58 : decode cX6_foresee 58 = .ok (.iload_n 2, 1) := by decide +kernel
theorem dX6_foresee_59 : decode cX6_foresee 59 = .ok (.lookupswitch 43 #[(0, 25), (1, 27)], 25) := by decide +kernel
theorem dX6_foresee_84 : decode cX6_foresee 84 = .ok (.iload_n 3, 1) := by decide +kernel
theorem dX6_foresee_85 : decode cX6_foresee 85 = .ok (.ireturn, 1) := by decide +kernel
theorem dX6_foresee_86 : decode cX6_foresee 86 = .ok (.aload_n 0, 1) := by decide +kernel
theorem dX6_foresee_87 : decode cX6_foresee 87 = .ok (.getfield 27, 3) := by decide +kernel
theorem dX6_foresee_90 : decode cX6_foresee 90 = .ok (.invokevirtual 231, 3) := by decide +kernel
theorem dX6_foresee_93 : decode cX6_foresee 93 = .ok (.aload_n 0, 1) := by decide +kernel
theorem dX6_foresee_94 : decode cX6_foresee 94 = .ok (.getfield 23, 3) := by decide +kernel
theorem dX6_foresee_97 : decode cX6_foresee 97 = .ok (.invokevirtual 231, 3) := by decide +kernel
theorem dX6_foresee_100 : decode cX6_foresee 100 = .ok (.isub, 1) := by decide +kernel
theorem dX6_foresee_101 : decode cX6_foresee 101 = .ok (.ireturn, 1) := by decide +kernel
theorem dX6_foresee_102 : decode cX6_foresee 102 = .ok (.aload_n 0, 1) := by decide +kernel
theorem dX6_foresee_103 : decode cX6_foresee 103 = .ok (.getfield 27, 3) := by decide +kernel
theorem dX6_foresee_106 : decode cX6_foresee 106 = .ok (.getfield 110, 3) := by decide +kernel
theorem dX6_foresee_109 : decode cX6_foresee 109 = .ok (.getfield 114, 3) := by decide +kernel
theorem dX6_foresee_112 : decode cX6_foresee 112 = .ok (.ireturn, 1) := by decide +kernel
theorem dX6_mean_0 : decode cX6_mean 0 = .ok (.aload_n 0, 1) := by decide +kernel
theorem dX6_mean_1 : decode cX6_mean 1 = .ok (.getfield 23, 3) := by decide +kernel
theorem dX6_mean_4 : decode cX6_mean 4 = .ok (.invokevirtual 235, 3) := by decide +kernel
theorem dX6_mean_7 : decode cX6_mean 7 = .ok (.dreturn, 1) := by decide +kernel
theorem dX6_digest_0 : decode cX6_digest 0 = .ok (.ldc2_w 239, 3) := by decide +kernel
theorem dX6_digest_3 : decode cX6_digest 3 = .ok (.lstore_n 1, 1) := by decide +kernel
theorem dX6_digest_4 : decode cX6_digest 4 = .ok (.iconst 0, 1) := by decide +kernel
theorem dX6_digest_5 : decode cX6_digest 5 = .ok (.istore_n 3, 1) := by decide +kernel
theorem dX6_digest_6 : decode cX6_digest 6 = .ok (.iload_n 3, 1) := by decide +kernel
theorem dX6_digest_7 : decode cX6_digest 7 = .ok (.bipush 11, 2) := by decide +kernel
theorem dX6_digest_9 : decode cX6_digest 9 = .ok (.if_icmp .ge 19, 3) := by decide +kernel
theorem dX6_digest_12 : decode cX6_digest 12 = .ok (.lload_n 1, 1) := by decide +kernel
theorem dX6_digest_13 : decode cX6_digest 13 = .ok (.aload_n 0, 1) := by decide +kernel
theorem dX6_digest_14 : decode cX6_digest 14 = .ok (.iload_n 3, 1) := by decide +kernel
theorem dX6_digest_15 : decode cX6_digest 15 = .ok (.invokevirtual 217, 3) := by decide +kernel
theorem dX6_digest_18 : decode cX6_digest 18 = .ok (.invokestatic 241, 3) := by decide +kernel
theorem dX6_digest_21 : decode cX6_digest 21 = .ok (.lstore_n 1, 1) := by decide +kernel
theorem dX6_digest_22 : decode cX6_digest 22 = .ok (.iinc 3 1, 3) := by decide +kernel
theorem dX6_digest_25 : decode cX6_digest 25 = .ok (.goto (-19), 3) := by decide +kernel
theorem dX6_digest_28 : decode cX6_digest 28 = .ok (.aload_n 0, 1) := by decide +kernel
theorem dX6_digest_29 : decode cX6_digest 29 = .ok (.getfield 10, 3) := by decide +kernel
theorem dX6_digest_32 : decode cX6_digest 32 = .ok (.lload_n 1, 1) := by decide +kernel
theorem dX6_digest_33 : decode cX6_digest 33 = .ok (.invokevirtual 245, 3) := by decide +kernel
theorem dX6_digest_36 : decode cX6_digest 36 = .ok (.lstore_n 1, 1) := by decide +kernel
theorem dX6_digest_37 : decode cX6_digest 37 = .ok (.iconst 0, 1) := by decide +kernel
theorem dX6_digest_38 : decode cX6_digest 38 = .ok (.istore_n 3, 1) := by decide +kernel
theorem dX6_digest_39 : decode cX6_digest 39 = .ok (.iload_n 3, 1) := by decide +kernel
theorem dX6_digest_40 : decode cX6_digest 40 = .ok (.aload_n 0, 1) := by decide +kernel
theorem dX6_digest_41 : decode cX6_digest 41 = .ok (.getfield 16, 3) := by decide +kernel
theorem dX6_digest_44 : decode cX6_digest 44 = .ok (.arraylength, 1) := by decide +kernel
theorem dX6_digest_45 : decode cX6_digest 45 = .ok (.if_icmp .ge 20, 3) := by decide +kernel
theorem dX6_digest_48 : decode cX6_digest 48 = .ok (.lload_n 1, 1) := by decide +kernel
theorem dX6_digest_49 : decode cX6_digest 49 = .ok (.aload_n 0, 1) := by decide +kernel
theorem dX6_digest_50 : decode cX6_digest 50 = .ok (.getfield 16, 3) := by decide +kernel
theorem dX6_digest_53 : decode cX6_digest 53 = .ok (.iload_n 3, 1) := by decide +kernel
theorem dX6_digest_54 : decode cX6_digest 54 = .ok (.iaload, 1) := by decide +kernel
theorem dX6_digest_55 : decode cX6_digest 55 = .ok (.invokestatic 241, 3) := by decide +kernel
theorem dX6_digest_58 : decode cX6_digest 58 = .ok (.lstore_n 1, 1) := by decide +kernel
theorem dX6_digest_59 : decode cX6_digest 59 = .ok (.iinc 3 1, 3) := by decide +kernel
theorem dX6_digest_62 : decode cX6_digest 62 = .ok (.goto (-23), 3) := by decide +kernel
theorem dX6_digest_65 : decode cX6_digest 65 = .ok (.aload_n 0, 1) := by decide +kernel
theorem dX6_digest_66 : decode cX6_digest 66 = .ok (.getfield 23, 3) := by decide +kernel
theorem dX6_digest_69 : decode cX6_digest 69 = .ok (.lload_n 1, 1) := by decide +kernel
theorem dX6_digest_70 : decode cX6_digest 70 = .ok (.invokevirtual 249, 3) := by decide +kernel
theorem dX6_digest_73 : decode cX6_digest 73 = .ok (.lreturn, 1) := by decide +kernel
theorem dX6_isBetween_0 : decode cX6_isBetween 0 = .ok (.iload_n 0, 1) := by decide +kernel
theorem dX6_isBetween_1 : decode cX6_isBetween 1 = .ok (.iload_n 1, 1) := by decide +kernel
theorem dX6_isBetween_2 : decode cX6_isBetween 2 = .ok (.if_icmp .lt 12, 3) := by decide +kernel
theorem dX6_isBetween_5 : decode cX6_isBetween 5 = .ok (.iload_n 0, 1) := by decide +kernel
theorem dX6_isBetween_6 : decode cX6_isBetween 6 = .ok (.iload_n 2, 1) := by decide +kernel
theorem dX6_isBetween_7 : decode cX6_isBetween 7 = .ok (.if_icmp .gt 7, 3) := by decide +kernel
theorem dX6_isBetween_10 : decode cX6_isBetween 10 = .ok (.iconst 1, 1) := by decide +kernel
theorem dX6_isBetween_11 : decode cX6_isBetween 11 = .ok (.goto 4, 3) := by decide +kernel
theorem dX6_isBetween_14 : decode cX6_isBetween 14 = .ok (.iconst 0, 1) := by decide +kernel
theorem dX6_isBetween_15 : decode cX6_isBetween 15 = .ok (.ireturn, 1) := by decide +kernel
theorem dX6_isIndex_0 : decode cX6_isIndex 0 = .ok (.iload_n 0, 1) := by decide +kernel
theorem dX6_isIndex_1 : decode cX6_isIndex 1 = .ok (.ifCond .lt 12, 3) := by decide +kernel
theorem dX6_isIndex_4 : decode cX6_isIndex 4 = .ok (.iload_n 0, 1) := by decide +kernel
theorem dX6_isIndex_5 : decode cX6_isIndex 5 = .ok (.iload_n 1, 1) := by decide +kernel
theorem dX6_isIndex_6 : decode cX6_isIndex 6 = .ok (.if_icmp .ge 7, 3) := by decide +kernel
theorem dX6_isIndex_9 : decode cX6_isIndex 9 = .ok (.iconst 1, 1) := by decide +kernel
theorem dX6_isIndex_10 : decode cX6_isIndex 10 = .ok (.goto 4, 3) := by decide +kernel
theorem dX6_isIndex_13 : decode cX6_isIndex 13 = .ok (.iconst 0, 1) := by decide +kernel
theorem dX6_isIndex_14 : decode cX6_isIndex 14 = .ok (.ireturn, 1) := by decide +kernel
theorem dX6_mixed_0 : decode cX6_mixed 0 = .ok (.lload_n 0, 1) := by decide +kernel
theorem dX6_mixed_1 : decode cX6_mixed 1 = .ok (.ldc2_w 250, 3) := by decide +kernel
theorem dX6_mixed_4 : decode cX6_mixed 4 = .ok (.lmul, 1) := by decide +kernel
theorem dX6_mixed_5 : decode cX6_mixed 5 = .ok (.iload_n 2, 1) := by decide +kernel
theorem dX6_mixed_6 : decode cX6_mixed 6 = .ok (.i2l, 1) := by decide +kernel
theorem dX6_mixed_7 : decode cX6_mixed 7 = .ok (.ladd, 1) := by decide +kernel
theorem dX6_mixed_8 : decode cX6_mixed 8 = .ok (.lreturn, 1) := by decide +kernel
theorem dX6_ringsHeard_0 : decode cX6_ringsHeard 0 = .ok (.iload_n 1, 1) := by decide +kernel
theorem dX6_ringsHeard_1 : decode cX6_ringsHeard 1 = .ok (.invokestatic 33, 3) := by decide +kernel
theorem dX6_ringsHeard_4 : decode cX6_ringsHeard 4 = .ok (.istore_n 3, 1) := by decide +kernel
theorem dX6_ringsHeard_5 : decode cX6_ringsHeard 5 = .ok (.iconst 0, 1) := by decide +kernel
theorem dX6_ringsHeard_6 : decode cX6_ringsHeard 6 = .ok (.istore 4, 2) := by decide +kernel
theorem dX6_ringsHeard_8 : decode cX6_ringsHeard 8 = .ok (.iconst 0, 1) := by decide +kernel
theorem dX6_ringsHeard_9 : decode cX6_ringsHeard 9 = .ok (.istore 5, 2) := by decide +kernel
theorem dX6_ringsHeard_11 : decode cX6_ringsHeard 11 = .ok (.iload 5, 2) := by decide +kernel
theorem dX6_ringsHeard_13 : decode cX6_ringsHeard 13 = .ok (.iload_n 3, 1) := by decide +kernel
theorem dX6_ringsHeard_14 : decode cX6_ringsHeard 14 = .ok (.if_icmp .ge 58, 3) := by decide +kernel
theorem dX6_ringsHeard_17 : decode cX6_ringsHeard 17 = .ok (.iload_n 1, 1) := by decide +kernel
theorem dX6_ringsHeard_18 : decode cX6_ringsHeard 18 = .ok (.iload_n 3, 1) := by decide +kernel
theorem dX6_ringsHeard_19 : decode cX6_ringsHeard 19 = .ok (.iconst 1, 1) := by decide +kernel
theorem dX6_ringsHeard_20 : decode cX6_ringsHeard 20 = .ok (.isub, 1) := by decide +kernel
theorem dX6_ringsHeard_21 : decode cX6_ringsHeard 21 = .ok (.iload 5, 2) := by decide +kernel
theorem dX6_ringsHeard_23 : decode cX6_ringsHeard 23 = .ok (.isub, 1) := by decide +kernel
theorem dX6_ringsHeard_24 : decode cX6_ringsHeard 24 = .ok (.invokestatic 252, 3) := by decide +kernel
theorem dX6_ringsHeard_27 : decode cX6_ringsHeard 27 = .ok (.istore 6, 2) := by decide +kernel
theorem dX6_ringsHeard_29 : decode cX6_ringsHeard 29 = .ok (.iload 6, 2) := by decide +kernel
theorem dX6_ringsHeard_31 : decode cX6_ringsHeard 31 = .ok (.iconst 1, 1) := by decide +kernel
theorem dX6_ringsHeard_32 : decode cX6_ringsHeard 32 = .ok (.if_icmp .ne 7, 3) := by decide +kernel
theorem dX6_ringsHeard_35 : decode cX6_ringsHeard 35 = .ok (.iconst 4, 1) := by decide +kernel
theorem dX6_ringsHeard_36 : decode cX6_ringsHeard 36 = .ok (.goto 5, 3) := by decide +kernel
theorem dX6_ringsHeard_39 : decode cX6_ringsHeard 39 = .ok (.bipush 7, 2) := by decide +kernel
theorem dX6_ringsHeard_41 : decode cX6_ringsHeard 41 = .ok (.istore 7, 2) := by decide +kernel
theorem dX6_ringsHeard_43 : decode cX6_ringsHeard 43 = .ok (.aload_n 0, 1) := by decide +kernel
theorem dX6_ringsHeard_44 : decode cX6_ringsHeard 44 = .ok (.iload_n 2, 1) := by decide +kernel
theorem dX6_ringsHeard_45 : decode cX6_ringsHeard 45 = .ok (.iload 5, 2) := by decide +kernel
theorem dX6_ringsHeard_47 : decode cX6_ringsHeard 47 = .ok (.iadd, 1) := by decide +kernel
theorem dX6_ringsHeard_48 : decode cX6_ringsHeard 48 = .ok (.invokevirtual 255, 3) := by decide +kernel
theorem dX6_ringsHeard_51 : decode cX6_ringsHeard 51 = .ok (.iload 7, 2) := by decide +kernel
theorem dX6_ringsHeard_53 : decode cX6_ringsHeard 53 = .ok (.if_icmp .ge 13, 3) := by decide +kernel
theorem dX6_ringsHeard_56 : decode cX6_ringsHeard 56 = .ok (.iload 4, 2) := by decide +kernel
theorem dX6_ringsHeard_58 : decode cX6_ringsHeard 58 = .ok (.bipush 10, 2) := by decide +kernel
theorem dX6_ringsHeard_60 : decode cX6_ringsHeard 60 = .ok (.imul, 1) := by decide +kernel
theorem dX6_ringsHeard_61 : decode cX6_ringsHeard 61 = .ok (.iload 6, 2) := by decide +kernel
theorem dX6_ringsHeard_63 : decode cX6_ringsHeard 63 = .ok (.iadd, 1) := by decide +kernel
theorem dX6_ringsHeard_64 : decode cX6_ringsHeard 64 = .ok (.istore 4, 2) := by decide +kernel
theorem dX6_ringsHeard_66 : decode cX6_ringsHeard 66 = .ok (.iinc 5 1, 3) := by decide +kernel
theorem dX6_ringsHeard_69 : decode cX6_ringsHeard 69 = .ok (.goto (-58), 3) := by decide +kernel
theorem dX6_ringsHeard_72 : decode cX6_ringsHeard 72 = .ok (.iload 4, 2) := by decide +kernel
theorem dX6_ringsHeard_74 : decode cX6_ringsHeard 74 = .ok (.ireturn, 1) := by decide +kernel
theorem dX6_fogIn_0 : decode cX6_fogIn 0 = .ok (.iload_n 1, 1) := by decide +kernel
theorem dX6_fogIn_1 : decode cX6_fogIn 1 = .ok (.bipush 20, 2) := by decide +kernel
theorem dX6_fogIn_3 : decode cX6_fogIn 3 = .ok (.irem, 1) := by decide +kernel
theorem dX6_fogIn_4 : decode cX6_fogIn 4 = .ok (.istore_n 2, 1) := by decide +kernel
theorem dX6_fogIn_5 : decode cX6_fogIn 5 = .ok (.iload_n 2, 1) := by decide +kernel
theorem dX6_fogIn_6 : decode cX6_fogIn 6 = .ok (.aload_n 0, 1) := by decide +kernel
theorem dX6_fogIn_7 : decode cX6_fogIn 7 = .ok (.getfield 16, 3) := by decide +kernel
theorem dX6_fogIn_10 : decode cX6_fogIn 10 = .ok (.arraylength, 1) := by decide +kernel
theorem dX6_fogIn_11 : decode cX6_fogIn 11 = .ok (.invokestatic 68, 3) := by decide +kernel
theorem dX6_fogIn_14 : decode cX6_fogIn 14 = .ok (.ifCond .eq 12, 3) := by decide +kernel
theorem dX6_fogIn_17 : decode cX6_fogIn 17 = .ok (.aload_n 0, 1) := by decide +kernel
theorem dX6_fogIn_18 : decode cX6_fogIn 18 = .ok (.getfield 16, 3) := by decide +kernel
theorem dX6_fogIn_21 : decode cX6_fogIn 21 = .ok (.iload_n 2, 1) := by decide +kernel
theorem dX6_fogIn_22 : decode cX6_fogIn 22 = .ok (.iaload, 1) := by decide +kernel
theorem dX6_fogIn_23 : decode cX6_fogIn 23 = .ok (.goto 4, 3) := by decide +kernel
theorem dX6_fogIn_26 : decode cX6_fogIn 26 = .ok (.iconst 0, 1) := by decide +kernel
theorem dX6_fogIn_27 : decode cX6_fogIn 27 = .ok (.ireturn, 1) := by decide +kernel
theorem dX6_countOf_0 : decode cX6_countOf 0 = .ok (.iload_n 1, 1) := by decide +kernel
theorem dX6_countOf_1 : decode cX6_countOf 1 = .ok (.tableswitch 139 0 9 #[55, 63, 71, 79, 88, 97, 106, 115, 123, 131], 55) := by decide +kernel
theorem dX6_countOf_56 : decode cX6_countOf 56 = .ok (.aload_n 0, 1) := by decide +kernel
theorem dX6_countOf_57 : decode cX6_countOf 57 = .ok (.getfield 23, 3) := by decide +kernel
theorem dX6_countOf_60 : decode cX6_countOf 60 = .ok (.getfield 90, 3) := by decide +kernel
theorem dX6_countOf_63 : decode cX6_countOf 63 = .ok (.ireturn, 1) := by decide +kernel
theorem dX6_countOf_64 : decode cX6_countOf 64 = .ok (.aload_n 0, 1) := by decide +kernel
theorem dX6_countOf_65 : decode cX6_countOf 65 = .ok (.getfield 10, 3) := by decide +kernel
theorem dX6_countOf_68 : decode cX6_countOf 68 = .ok (.getfield 81, 3) := by decide +kernel
theorem dX6_countOf_71 : decode cX6_countOf 71 = .ok (.ireturn, 1) := by decide +kernel
theorem dX6_countOf_72 : decode cX6_countOf 72 = .ok (.aload_n 0, 1) := by decide +kernel
theorem dX6_countOf_73 : decode cX6_countOf 73 = .ok (.getfield 23, 3) := by decide +kernel
theorem dX6_countOf_76 : decode cX6_countOf 76 = .ok (.getfield 258, 3) := by decide +kernel
theorem dX6_countOf_79 : decode cX6_countOf 79 = .ok (.ireturn, 1) := by decide +kernel
theorem dX6_countOf_80 : decode cX6_countOf 80 = .ok (.aload_n 0, 1) := by decide +kernel
theorem dX6_countOf_81 : decode cX6_countOf 81 = .ok (.getfield 23, 3) := by decide +kernel
theorem dX6_countOf_84 : decode cX6_countOf 84 = .ok (.iconst 0, 1) := by decide +kernel
theorem dX6_countOf_85 : decode cX6_countOf 85 = .ok (.invokevirtual 261, 3) := by decide +kernel
theorem dX6_countOf_88 : decode cX6_countOf 88 = .ok (.ireturn, 1) := by decide +kernel
theorem dX6_countOf_89 : decode cX6_countOf 89 = .ok (.aload_n 0, 1) := by decide +kernel
theorem dX6_countOf_90 : decode cX6_countOf 90 = .ok (.getfield 23, 3) := by decide +kernel
theorem dX6_countOf_93 : decode cX6_countOf 93 = .ok (.iconst 1, 1) := by decide +kernel
theorem dX6_countOf_94 : decode cX6_countOf 94 = .ok (.invokevirtual 261, 3) := by decide +kernel
theorem dX6_countOf_97 : decode cX6_countOf 97 = .ok (.ireturn, 1) := by decide +kernel
theorem dX6_countOf_98 : decode cX6_countOf 98 = .ok (.aload_n 0, 1) := by decide +kernel
theorem dX6_countOf_99 : decode cX6_countOf 99 = .ok (.getfield 23, 3) := by decide +kernel
theorem dX6_countOf_102 : decode cX6_countOf 102 = .ok (.iconst 2, 1) := by decide +kernel
theorem dX6_countOf_103 : decode cX6_countOf 103 = .ok (.invokevirtual 261, 3) := by decide +kernel
theorem dX6_countOf_106 : decode cX6_countOf 106 = .ok (.ireturn, 1) := by decide +kernel
theorem dX6_countOf_107 : decode cX6_countOf 107 = .ok (.aload_n 0, 1) := by decide +kernel
theorem dX6_countOf_108 : decode cX6_countOf 108 = .ok (.getfield 23, 3) := by decide +kernel
theorem dX6_countOf_111 : decode cX6_countOf 111 = .ok (.iconst 3, 1) := by decide +kernel
theorem dX6_countOf_112 : decode cX6_countOf 112 = .ok (.invokevirtual 261, 3) := by decide +kernel
theorem dX6_countOf_115 : decode cX6_countOf 115 = .ok (.ireturn, 1) := by decide +kernel
theorem dX6_countOf_116 : decode cX6_countOf 116 = .ok (.aload_n 0, 1) := by decide +kernel
theorem dX6_countOf_117 : decode cX6_countOf 117 = .ok (.getfield 23, 3) := by decide +kernel
theorem dX6_countOf_120 : decode cX6_countOf 120 = .ok (.getfield 136, 3) := by decide +kernel
theorem dX6_countOf_123 : decode cX6_countOf 123 = .ok (.ireturn, 1) := by decide +kernel
theorem dX6_countOf_124 : decode cX6_countOf 124 = .ok (.aload_n 0, 1) := by decide +kernel
theorem dX6_countOf_125 : decode cX6_countOf 125 = .ok (.getfield 23, 3) := by decide +kernel
theorem dX6_countOf_128 : decode cX6_countOf 128 = .ok (.invokevirtual 264, 3) := by decide +kernel
theorem dX6_countOf_131 : decode cX6_countOf 131 = .ok (.ireturn, 1) := by decide +kernel
theorem dX6_countOf_132 : decode cX6_countOf 132 = .ok (.aload_n 0, 1) := by decide +kernel
theorem dX6_countOf_133 : decode cX6_countOf 133 = .ok (.getfield 23, 3) := by decide +kernel
theorem dX6_countOf_136 : decode cX6_countOf 136 = .ok (.getfield 122, 3) := by decide +kernel
theorem dX6_countOf_139 : decode cX6_countOf 139 = .ok (.ireturn, 1) := by decide +kernel
theorem dX6_countOf_140 : decode cX6_countOf 140 = .ok (.aload_n 0, 1) := by decide +kernel
theorem dX6_countOf_141 : decode cX6_countOf 141 = .ok (.getfield 23, 3) := by decide +kernel
theorem dX6_countOf_144 : decode cX6_countOf 144 = .ok (.getfield 119, 3) := by decide +kernel
theorem dX6_countOf_147 : decode cX6_countOf 147 = .ok (.ireturn, 1) := by decide +kernel
theorem dJ9_max_7cf53_0 : decode cJ9_max_7cf53 0 = .ok (.iload_n 0, 1) := by decide +kernel
theorem dJ9_max_7cf53_1 : decode cJ9_max_7cf53 1 = .ok (.iload_n 1, 1) := by decide +kernel
theorem dJ9_max_7cf53_2 : decode cJ9_max_7cf53 2 = .ok (.if_icmp .lt 7, 3) := by decide +kernel
theorem dJ9_max_7cf53_5 : decode cJ9_max_7cf53 5 = .ok (.iload_n 0, 1) := by decide +kernel
theorem dJ9_max_7cf53_6 : decode cJ9_max_7cf53 6 = .ok (.goto 4, 3) := by decide +kernel
theorem dJ9_max_7cf53_9 : decode cJ9_max_7cf53 9 = .ok (.iload_n 1, 1) := by decide +kernel
theorem dJ9_max_7cf53_10 : decode cJ9_max_7cf53 10 = .ok (.ireturn, 1) := by decide +kernel
theorem dJ9_min_7cf53_0 : decode cJ9_min_7cf53 0 = .ok (.iload_n 0, 1) := by decide +kernel
theorem dJ9_min_7cf53_1 : decode cJ9_min_7cf53 1 = .ok (.iload_n 1, 1) := by decide +kernel
theorem dJ9_min_7cf53_2 : decode cJ9_min_7cf53 2 = .ok (.if_icmp .gt 7, 3) := by decide +kernel
theorem dJ9_min_7cf53_5 : decode cJ9_min_7cf53 5 = .ok (.iload_n 0, 1) := by decide +kernel
theorem dJ9_min_7cf53_6 : decode cJ9_min_7cf53 6 = .ok (.goto 4, 3) := by decide +kernel
theorem dJ9_min_7cf53_9 : decode cJ9_min_7cf53 9 = .ok (.iload_n 1, 1) := by decide +kernel
theorem dJ9_min_7cf53_10 : decode cJ9_min_7cf53 10 = .ok (.ireturn, 1) := by decide +kernel
