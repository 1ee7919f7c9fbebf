theorem dX0_init_0 : decode cX0_init 0 = .ok (.aload_n 0, 1) := by decide +kernel
theorem dX0_init_1 : decode cX0_init 1 = .ok (.invokespecial 3, 3) := by decide +kernel
theorem dX0_init_4 : decode cX0_init 4 = .ok (.aload_n 0, 1) := by decide +kernel
theorem dX0_init_5 : decode cX0_init 5 = .ok (.bipush 10, 2) := by decide +kernel
theorem dX0_init_7 : decode cX0_init 7 = .ok (.putfield 9, 3) := by decide +kernel
theorem dX0_init_10 : decode cX0_init 10 = .ok (.aload_n 0, 1) := by decide +kernel
theorem dX0_init_11 : decode cX0_init 11 = .ok (.sipush 200, 3) := by decide +kernel
theorem dX0_init_14 : decode cX0_init 14 = .ok (.putfield 15, 3) := by decide +kernel
theorem dX0_init_17 : decode cX0_init 17 = .ok (.aload_n 0, 1) := by decide +kernel
theorem dX0_init_18 : decode cX0_init 18 = .ok (.iconst 1, 1) := by decide +kernel
theorem dX0_init_19 : decode cX0_init 19 = .ok (.putfield 18, 3) := by decide +kernel
theorem dX0_init_22 : decode cX0_init 22 = .ok (.aload_n 0, 1) := by decide +kernel
theorem dX0_init_23 : decode cX0_init 23 = .ok (.iconst 1, 1) := by decide +kernel
theorem dX0_init_24 : decode cX0_init 24 = .ok (.putfield 21, 3) := by decide +kernel
theorem dX0_init_27 : decode cX0_init 27 = .ok (.aload_n 0, 1) := by decide +kernel
theorem dX0_init_28 : decode cX0_init 28 = .ok (.bipush 16, 2) := by decide +kernel
theorem dX0_init_30 : decode cX0_init 30 = .ok (.anewarray 24, 3) := by decide +kernel
theorem dX0_init_33 : decode cX0_init 33 = .ok (.putfield 26, 3) := by decide +kernel
theorem dX0_init_36 : decode cX0_init 36 = .ok (.aload_n 0, 1) := by decide +kernel
theorem dX0_init_37 : decode cX0_init 37 = .ok (.new 30, 3) := by decide +kernel
theorem dX0_init_40 : decode cX0_init 40 = .ok (.dup, 1) := by decide +kernel
theorem dX0_init_41 : decode cX0_init 41 = .ok (.invokespecial 32, 3) := by decide +kernel
theorem dX0_init_44 : decode cX0_init 44 = .ok (.putfield 33, 3) := by decide +kernel
theorem dX0_init_47 : decode cX0_init 47 = .ok (.aload_n 0, 1) := by decide +kernel
theorem dX0_init_48 : decode cX0_init 48 = .ok (.new 30, 3) := by decide +kernel
theorem dX0_init_51 : decode cX0_init 51 = .ok (.dup, 1) := by decide +kernel
theorem dX0_init_52 : decode cX0_init 52 = .ok (.invokespecial 32, 3) := by decide +kernel
theorem dX0_init_55 : decode cX0_init 55 = .ok (.putfield 37, 3) := by decide +kernel
theorem dX0_init_58 : decode cX0_init 58 = .ok (.aload_n 0, 1) := by decide +kernel
theorem dX0_init_59 : decode cX0_init 59 = .ok (.new 40, 3) := by decide +kernel
theorem dX0_init_62 : decode cX0_init 62 = .ok (.dup, 1) := by decide +kernel
theorem dX0_init_63 : decode cX0_init 63 = .ok (.invokespecial 42, 3) := by decide +kernel
theorem dX0_init_66 : decode cX0_init 66 = .ok (.putfield 43, 3) := by decide +kernel
theorem dX0_init_69 : decode cX0_init 69 = .ok (.iconst 0, 1) := by decide +kernel
theorem dX0_init_70 : decode cX0_init 70 = .ok (.istore_n 1, 1) := by decide +kernel
theorem dX0_init_71 : decode cX0_init 71 = .ok (.iload_n 1, 1) := by decide +kernel
theorem dX0_init_72 : decode cX0_init 72 = .ok (.aload_n 0, 1) := by decide +kernel
theorem dX0_init_73 : decode cX0_init 73 = .ok (.getfield 26, 3) := by decide +kernel
theorem dX0_init_76 : decode cX0_init 76 = .ok (.arraylength, 1) := by decide +kernel
theorem dX0_init_77 : decode cX0_init 77 = .ok (.if_icmp .ge 23, 3) := by decide +kernel
theorem dX0_init_80 : decode cX0_init 80 = .ok (.aload_n 0, 1) := by decide +kernel
theorem dX0_init_81 : decode cX0_init 81 = .ok (.getfield 26, 3) := by decide +kernel
theorem dX0_init_84 : decode cX0_init 84 = .ok (.iload_n 1, 1) := by decide +kernel
theorem dX0_init_85 : decode cX0_init 85 = .ok (.new 24, 3) := by decide +kernel
theorem dX0_init_88 : decode cX0_init 88 = .ok (.dup, 1) := by decide +kernel
theorem dX0_init_89 : decode cX0_init 89 = .ok (.iload_n 1, 1) := by decide +kernel
theorem dX0_init_90 : decode cX0_init 90 = .ok (.invokespecial 47, 3) := by decide +kernel
theorem dX0_init_93 : decode cX0_init 93 = .ok (.aastore, 1) := by decide +kernel
theorem dX0_init_94 : decode cX0_init 94 = .ok (.iinc 1 1, 3) := by decide +kernel
theorem dX0_init_97 : decode cX0_init 97 = .ok (.goto (-26), 3) := by decide +kernel
theorem dX0_init_100 : decode cX0_init 100 = .ok (.return_, 1) := by decide +kernel
theorem dX0_gateAt_0 : decode cX0_gateAt 0 = .ok (.iload_n 1, 1) := by decide +kernel
theorem dX0_gateAt_1 : decode cX0_gateAt 1 = .ok (.ifCond .ne 10, 3) := by decide +kernel
theorem dX0_gateAt_4 : decode cX0_gateAt 4 = .ok (.aload_n 0, 1) := by decide +kernel
theorem dX0_gateAt_5 : decode cX0_gateAt 5 = .ok (.getfield 33, 3) := by decide +kernel
theorem dX0_gateAt_8 : decode cX0_gateAt 8 = .ok (.goto 7, 3) := by decide +kernel
theorem dX0_gateAt_11 : decode cX0_gateAt 11 = .ok (.aload_n 0, 1) := by decide +kernel
theorem dX0_gateAt_12 : decode cX0_gateAt 12 = .ok (.getfield 37, 3) := by decide +kernel
theorem dX0_gateAt_15 : decode cX0_gateAt 15 = .ok (.areturn, 1) := by decide +kernel
theorem dX0_cartAt_0 : decode cX0_cartAt 0 = .ok (.iload_n 1, 1) := by decide +kernel
theorem dX0_cartAt_1 : decode cX0_cartAt 1 = .ok (.aload_n 0, 1) := by decide +kernel
theorem dX0_cartAt_2 : decode cX0_cartAt 2 = .ok (.getfield 50, 3) := by decide +kernel
theorem dX0_cartAt_5 : decode cX0_cartAt 5 = .ok (.if_icmp .ge 24, 3) := by decide +kernel
theorem dX0_cartAt_8 : decode cX0_cartAt 8 = .ok (.iload_n 1, 1) := by decide +kernel
theorem dX0_cartAt_9 : decode cX0_cartAt 9 = .ok (.aload_n 0, 1) := by decide +kernel
theorem dX0_cartAt_10 : decode cX0_cartAt 10 = .ok (.getfield 26, 3) := by decide +kernel
theorem dX0_cartAt_13 : decode cX0_cartAt 13 = .ok (.arraylength, 1) := by decide +kernel
theorem dX0_cartAt_14 : decode cX0_cartAt 14 = .ok (.invokestatic 53, 3) := by decide +kernel
theorem dX0_cartAt_17 : decode cX0_cartAt 17 = .ok (.ifCond .eq 12, 3) := by decide +kernel
theorem dX0_cartAt_20 : decode cX0_cartAt 20 = .ok (.aload_n 0, 1) := by decide +kernel
theorem dX0_cartAt_21 : decode cX0_cartAt 21 = .ok (.getfield 26, 3) := by decide +kernel
theorem dX0_cartAt_24 : decode cX0_cartAt 24 = .ok (.iload_n 1, 1) := by decide +kernel
theorem dX0_cartAt_25 : decode cX0_cartAt 25 = .ok (.aaload, 1) := by decide +kernel
theorem dX0_cartAt_26 : decode cX0_cartAt 26 = .ok (.goto 4, 3) := by decide +kernel
theorem dX0_cartAt_29 : decode cX0_cartAt 29 = .ok (.aconst_null, 1) := by decide +kernel
theorem dX0_cartAt_30 : decode cX0_cartAt 30 = .ok (.areturn, 1) := by decide +kernel
theorem dX0_newCart_0 : decode cX0_newCart 0 = .ok (.aload_n 0, 1) := by decide +kernel
theorem dX0_newCart_1 : decode cX0_newCart 1 = .ok (.getfield 50, 3) := by decide +kernel
theorem dX0_newCart_4 : decode cX0_newCart 4 = .ok (.aload_n 0, 1) := by decide +kernel
theorem dX0_newCart_5 : decode cX0_newCart 5 = .ok (.getfield 26, 3) := by decide +kernel
theorem dX0_newCart_8 : decode cX0_newCart 8 = .ok (.arraylength, 1) := by decide +kernel
theorem dX0_newCart_9 : decode cX0_newCart 9 = .ok (.if_icmp .lt 5, 3) := by decide +kernel
theorem dX0_newCart_12 : decode cX0_newCart 12 = .ok (.aconst_null, 1) := by decide +kernel
theorem dX0_newCart_13 : decode cX0_newCart 13 = .ok (.areturn, 1) := by decide +kernel
theorem dX0_newCart_14 : decode cX0_newCart 14 = .ok (.aload_n 0, 1) := by decide +kernel
theorem dX0_newCart_15 : decode cX0_newCart 15 = .ok (.dup, 1) := by decide +kernel
theorem dX0_newCart_16 : decode cX0_newCart 16 = .ok (.getfield 50, 3) := by decide +kernel
theorem dX0_newCart_19 : decode cX0_newCart 19 = .ok (.iconst 1, 1) := by decide +kernel
theorem dX0_newCart_20 : decode cX0_newCart 20 = .ok (.iadd, 1) := by decide +kernel
theorem dX0_newCart_21 : decode cX0_newCart 21 = .ok (.putfield 50, 3) := by decide +kernel
theorem dX0_newCart_24 : decode cX0_newCart 24 = .ok (.aload_n 0, 1) := by decide +kernel
theorem dX0_newCart_25 : decode cX0_newCart 25 = .ok (.aload_n 0, 1) := by decide +kernel
theorem dX0_newCart_26 : decode cX0_newCart 26 = .ok (.getfield 50, 3) := by decide +kernel
theorem dX0_newCart_29 : decode cX0_newCart 29 = .ok (.iconst 1, 1) := by decide +kernel
theorem dX0_newCart_30 : decode cX0_newCart 30 = .ok (.isub, 1) := by decide +kernel
theorem dX0_newCart_31 : decode cX0_newCart 31 = .ok (.invokevirtual 57, 3) := by decide +kernel
theorem dX0_newCart_34 : decode cX0_newCart 34 = .ok (.areturn, 1) := by decide +kernel
theorem dX0_turn_0 : decode cX0_turn 0 = .ok (.aload_n 0, 1) := by decide +kernel
theorem dX0_turn_1 : decode cX0_turn 1 = .ok (.iconst 1, 1) := by decide +kernel
theorem dX0_turn_2 : decode cX0_turn 2 = .ok (.aload_n 0, 1) := by decide +kernel
theorem dX0_turn_3 : decode cX0_turn 3 = .ok (.getfield 61, 3) := by decide +kernel
theorem dX0_turn_6 : decode cX0_turn 6 = .ok (.isub, 1) := by decide +kernel
theorem dX0_turn_7 : decode cX0_turn 7 = .ok (.putfield 61, 3) := by decide +kernel
theorem dX0_turn_10 : decode cX0_turn 10 = .ok (.return_, 1) := by decide +kernel
theorem dX0_run_0 : decode cX0_run 0 = .ok (.iconst 0, 1) := by decide +kernel
theorem dX0_run_1 : decode cX0_run 1 = .ok (.istore_n 2, 1) := by decide +kernel
theorem dX0_run_2 : decode cX0_run 2 = .ok (.iconst 0, 1) := by decide +kernel
theorem dX0_run_3 : decode cX0_run 3 = .ok (.istore_n 3, 1) := by decide +kernel
theorem dX0_run_4 : decode cX0_run 4 = .ok (.iload_n 3, 1) := by decide +kernel
theorem dX0_run_5 : decode cX0_run 5 = .ok (.iload_n 1, 1) := by decide +kernel
theorem dX0_run_6 : decode cX0_run 6 = .ok (.if_icmp .ge 30, 3) := by decide +kernel
theorem dX0_run_9 : decode cX0_run 9 = .ok (.iload_n 2, 1) := by decide +kernel
theorem dX0_run_10 : decode cX0_run 10 = .ok (.aload_n 0, 1) := by decide +kernel
theorem dX0_run_11 : decode cX0_run 11 = .ok (.invokevirtual 64, 3) := by decide +kernel
theorem dX0_run_14 : decode cX0_run 14 = .ok (.iadd, 1) := by decide +kernel
theorem dX0_run_15 : decode cX0_run 15 = .ok (.istore_n 2, 1) := by decide +kernel
theorem dX0_run_16 : decode cX0_run 16 = .ok (.aload_n 0, 1) := by decide +kernel
theorem dX0_run_17 : decode cX0_run 17 = .ok (.invokevirtual 68, 3) := by decide +kernel
theorem dX0_run_20 : decode cX0_run 20 = .ok (.aload_n 0, 1) := by decide +kernel
theorem dX0_run_21 : decode cX0_run 21 = .ok (.dup, 1) := by decide +kernel
theorem dX0_run_22 : decode cX0_run 22 = .ok (.getfield 71, 3) := by decide +kernel
theorem dX0_run_25 : decode cX0_run 25 = .ok (.iconst 1, 1) := by decide +kernel
theorem dX0_run_26 : decode cX0_run 26 = .ok (.iadd, 1) := by decide +kernel
theorem dX0_run_27 : decode cX0_run 27 = .ok (.putfield 71, 3) := by decide +kernel
theorem dX0_run_30 : decode cX0_run 30 = .ok (.iinc 3 1, 3) := by decide +kernel
theorem dX0_run_33 : decode cX0_run 33 = .ok (.goto (-29), 3) := by decide +kernel
theorem dX0_run_36 : decode cX0_run 36 = .ok (.iload_n 2, 1) := by decide +kernel
theorem dX0_run_37 : decode cX0_run 37 = .ok (.ireturn, 1) := by decide +kernel
theorem dX0_isOver_0 : decode cX0_isOver 0 = .ok (.aload_n 0, 1) := by decide +kernel
theorem dX0_isOver_1 : decode cX0_isOver 1 = .ok (.iload_n 1, 1) := by decide +kernel
theorem dX0_isOver_2 : decode cX0_isOver 2 = .ok (.invokevirtual 57, 3) := by decide +kernel
theorem dX0_isOver_5 : decode cX0_isOver 5 = .ok (.astore_n 2, 1) := by decide +kernel
theorem dX0_isOver_6 : decode cX0_isOver 6 = .ok (.aload_n 2, 1) := by decide +kernel
theorem dX0_isOver_7 : decode cX0_isOver 7 = .ok (.ifnull 15, 3) := by decide +kernel
theorem dX0_isOver_10 : decode cX0_isOver 10 = .ok (.aload_n 2, 1) := by decide +kernel
theorem dX0_isOver_11 : decode cX0_isOver 11 = .ok (.getfield 74, 3) := by decide +kernel
theorem dX0_isOver_14 : decode cX0_isOver 14 = .ok (.iconst 2, 1) := by decide +kernel
theorem dX0_isOver_15 : decode cX0_isOver 15 = .ok (.if_icmp .ne 7, 3) := by decide +kernel
theorem dX0_isOver_18 : decode cX0_isOver 18 = .ok (.iconst 1, 1) := by decide +kernel
theorem dX0_isOver_19 : decode cX0_isOver 19 = .ok (.goto 4, 3) := by decide +kernel
theorem dX0_isOver_22 : decode cX0_isOver 22 = .ok (.iconst 0, 1) := by decide +kernel
theorem dX0_isOver_23 : decode cX0_isOver 23 = .ok (.ireturn, 1) := by decide +kernel
theorem dX0_coinsInBoxes_0 : decode cX0_coinsInBoxes 0 = .ok (.aload_n 0, 1) := by decide +kernel
theorem dX0_coinsInBoxes_1 : decode cX0_coinsInBoxes 1 = .ok (.getfield 33, 3) := by decide +kernel
theorem dX0_coinsInBoxes_4 : decode cX0_coinsInBoxes 4 = .ok (.getfield 77, 3) := by decide +kernel
theorem dX0_coinsInBoxes_7 : decode cX0_coinsInBoxes 7 = .ok (.aload_n 0, 1) := by decide +kernel
theorem dX0_coinsInBoxes_8 : decode cX0_coinsInBoxes 8 = .ok (.getfield 37, 3) := by decide +kernel
theorem dX0_coinsInBoxes_11 : decode cX0_coinsInBoxes 11 = .ok (.getfield 77, 3) := by decide +kernel
theorem dX0_coinsInBoxes_14 : decode cX0_coinsInBoxes 14 = .ok (.iadd, 1) := by decide +kernel
theorem dX0_coinsInBoxes_15 : decode cX0_coinsInBoxes 15 = .ok (.ireturn, 1) := by decide +kernel
theorem dX0_cartsIn_0 : decode cX0_cartsIn 0 = .ok (.iconst 0, 1) := by decide +kernel
theorem dX0_cartsIn_1 : decode cX0_cartsIn 1 = .ok (.istore_n 2, 1) := by decide +kernel
theorem dX0_cartsIn_2 : decode cX0_cartsIn 2 = .ok (.iconst 0, 1) := by decide +kernel
theorem dX0_cartsIn_3 : decode cX0_cartsIn 3 = .ok (.istore_n 3, 1) := by decide +kernel
theorem dX0_cartsIn_4 : decode cX0_cartsIn 4 = .ok (.iload_n 3, 1) := by decide +kernel
theorem dX0_cartsIn_5 : decode cX0_cartsIn 5 = .ok (.aload_n 0, 1) := by decide +kernel
theorem dX0_cartsIn_6 : decode cX0_cartsIn 6 = .ok (.getfield 50, 3) := by decide +kernel
theorem dX0_cartsIn_9 : decode cX0_cartsIn 9 = .ok (.if_icmp .ge 33, 3) := by decide +kernel
theorem dX0_cartsIn_12 : decode cX0_cartsIn 12 = .ok (.aload_n 0, 1) := by decide +kernel
theorem dX0_cartsIn_13 : decode cX0_cartsIn 13 = .ok (.iload_n 3, 1) := by decide +kernel
theorem dX0_cartsIn_14 : decode cX0_cartsIn 14 = .ok (.invokevirtual 57, 3) := by decide +kernel
theorem dX0_cartsIn_17 : decode cX0_cartsIn 17 = .ok (.astore 4, 2) := by decide +kernel
theorem dX0_cartsIn_19 : decode cX0_cartsIn 19 = .ok (.aload 4, 2) := by decide +kernel
theorem dX0_cartsIn_21 : decode cX0_cartsIn 21 = .ok (.ifnull 15, 3) := by decide +kernel
theorem dX0_cartsIn_24 : decode cX0_cartsIn 24 = .ok (.aload 4, 2) := by decide +kernel
theorem dX0_cartsIn_26 : decode cX0_cartsIn 26 = .ok (.getfield 74, 3) := by decide +kernel
theorem dX0_cartsIn_29 : decode cX0_cartsIn 29 = .ok (.iload_n 1, 1) := by decide +kernel
theorem dX0_cartsIn_30 : decode cX0_cartsIn 30 = .ok (.if_icmp .ne 6, 3) := by decide +kernel
theorem dX0_cartsIn_33 : decode cX0_cartsIn 33 = .ok (.iinc 2 1, 3) := by decide +kernel
theorem dX0_cartsIn_36 : decode cX0_cartsIn 36 = .ok (.iinc 3 1, 3) := by decide +kernel
theorem dX0_cartsIn_39 : decode cX0_cartsIn 39 = .ok (.goto (-35), 3) := by decide +kernel
theorem dX0_cartsIn_42 : decode cX0_cartsIn 42 = .ok (.iload_n 2, 1) := by decide +kernel
theorem dX0_cartsIn_43 : decode cX0_cartsIn 43 = .ok (.ireturn, 1) := by decide +kernel
theorem dX0_weightOnBridge_0 : decode cX0_weightOnBridge 0 = .ok (.iconst 0, 1) := by decide +kernel
theorem dX0_weightOnBridge_1 : decode cX0_weightOnBridge 1 = .ok (.istore_n 1, 1) := by decide +kernel
theorem dX0_weightOnBridge_2 : decode cX0_weightOnBridge 2 = .ok (.iconst 0, 1) := by decide +kernel
theorem dX0_weightOnBridge_3 : decode cX0_weightOnBridge 3 = .ok (.istore_n 2, 1) := by decide +kernel
theorem dX0_weightOnBridge_4 : decode cX0_weightOnBridge 4 = .ok (.iload_n 2, 1) := by decide +kernel
theorem dX0_weightOnBridge_5 : decode cX0_weightOnBridge 5 = .ok (.aload_n 0, 1) := by decide +kernel
theorem dX0_weightOnBridge_6 : decode cX0_weightOnBridge 6 = .ok (.getfield 43, 3) := by decide +kernel
theorem dX0_weightOnBridge_9 : decode cX0_weightOnBridge 9 = .ok (.getfield 80, 3) := by decide +kernel
theorem dX0_weightOnBridge_12 : decode cX0_weightOnBridge 12 = .ok (.if_icmp .ge 33, 3) := by decide +kernel
theorem dX0_weightOnBridge_15 : decode cX0_weightOnBridge 15 = .ok (.aload_n 0, 1) := by decide +kernel
theorem dX0_weightOnBridge_16 : decode cX0_weightOnBridge 16 = .ok (.aload_n 0, 1) := by decide +kernel
theorem dX0_weightOnBridge_17 : decode cX0_weightOnBridge 17 = .ok (.getfield 43, 3) := by decide +kernel
theorem dX0_weightOnBridge_20 : decode cX0_weightOnBridge 20 = .ok (.iload_n 2, 1) := by decide +kernel
theorem dX0_weightOnBridge_21 : decode cX0_weightOnBridge 21 = .ok (.invokevirtual 83, 3) := by decide +kernel
theorem dX0_weightOnBridge_24 : decode cX0_weightOnBridge 24 = .ok (.invokevirtual 57, 3) := by decide +kernel
theorem dX0_weightOnBridge_27 : decode cX0_weightOnBridge 27 = .ok (.astore_n 3, 1) := by decide +kernel
theorem dX0_weightOnBridge_28 : decode cX0_weightOnBridge 28 = .ok (.aload_n 3, 1) := by decide +kernel
theorem dX0_weightOnBridge_29 : decode cX0_weightOnBridge 29 = .ok (.ifnull 10, 3) := by decide +kernel
theorem dX0_weightOnBridge_32 : decode cX0_weightOnBridge 32 = .ok (.iload_n 1, 1) := by decide +kernel
theorem dX0_weightOnBridge_33 : decode cX0_weightOnBridge 33 = .ok (.aload_n 3, 1) := by decide +kernel
theorem dX0_weightOnBridge_34 : decode cX0_weightOnBridge 34 = .ok (.getfield 87, 3) := by decide +kernel
theorem dX0_weightOnBridge_37 : decode cX0_weightOnBridge 37 = .ok (.iadd, 1) := by decide +kernel
theorem dX0_weightOnBridge_38 : decode cX0_weightOnBridge 38 = .ok (.istore_n 1, 1) := by decide +kernel
theorem dX0_weightOnBridge_39 : decode cX0_weightOnBridge 39 = .ok (.iinc 2 1, 3) := by decide +kernel
theorem dX0_weightOnBridge_42 : decode cX0_weightOnBridge 42 = .ok (.goto (-38), 3) := by decide +kernel
theorem dX0_weightOnBridge_45 : decode cX0_weightOnBridge 45 = .ok (.iload_n 1, 1) := by decide +kernel
theorem dX0_weightOnBridge_46 : decode cX0_weightOnBridge 46 = .ok (.ireturn, 1) := by decide +kernel
theorem dX0_tellCart_0 : decode cX0_tellCart 0 = .ok (.iload_n 2, 1) := by decide +kernel
theorem dX0_tellCart_1 : decode cX0_tellCart 1 = .ok (.tableswitch 96 0 7 #[47, 52, 57, 62, 67, 72, 77, 83], 47) := by decide +kernel
theorem dX0_tellCart_48 : decode cX0_tellCart 48 = .ok (.aload_n 1, 1) := by decide +kernel
theorem dX0_tellCart_49 : decode cX0_tellCart 49 = .ok (.getfield 93, 3) := by decide +kernel
theorem dX0_tellCart_52 : decode cX0_tellCart 52 = .ok (.ireturn, 1) := by decide +kernel
theorem dX0_tellCart_53 : decode cX0_tellCart 53 = .ok (.aload_n 1, 1) := by decide +kernel
theorem dX0_tellCart_54 : decode cX0_tellCart 54 = .ok (.getfield 87, 3) := by decide +kernel
theorem dX0_tellCart_57 : decode cX0_tellCart 57 = .ok (.ireturn, 1) := by decide +kernel
theorem dX0_tellCart_58 : decode cX0_tellCart 58 = .ok (.aload_n 1, 1) := by decide +kernel
theorem dX0_tellCart_59 : decode cX0_tellCart 59 = .ok (.getfield 96, 3) := by decide +kernel
theorem dX0_tellCart_62 : decode cX0_tellCart 62 = .ok (.ireturn, 1) := by decide +kernel
theorem dX0_tellCart_63 : decode cX0_tellCart 63 = .ok (.aload_n 1, 1) := by decide +kernel
theorem dX0_tellCart_64 : decode cX0_tellCart 64 = .ok (.getfield 99, 3) := by decide +kernel
theorem dX0_tellCart_67 : decode cX0_tellCart 67 = .ok (.ireturn, 1) := by decide +kernel
theorem dX0_tellCart_68 : decode cX0_tellCart 68 = .ok (.aload_n 1, 1) := by decide +kernel
theorem dX0_tellCart_69 : decode cX0_tellCart 69 = .ok (.getfield 100, 3) := by decide +kernel
theorem dX0_tellCart_72 : decode cX0_tellCart 72 = .ok (.ireturn, 1) := by decide +kernel
theorem dX0_tellCart_73 : decode cX0_tellCart 73 = .ok (.aload_n 1, 1) := by decide +kernel
theorem dX0_tellCart_74 : decode cX0_tellCart 74 = .ok (.getfield 74, 3) := by decide +kernel
theorem dX0_tellCart_77 : decode cX0_tellCart 77 = .ok (.ireturn, 1) := by decide +kernel
theorem dX0_tellCart_78 : decode cX0_tellCart 78 = .ok (.aload_n 0, 1) := by decide +kernel
theorem dX0_tellCart_79 : decode cX0_tellCart 79 = .ok (.aload_n 1, 1) := by decide +kernel
theorem dX0_tellCart_80 : decode cX0_tellCart 80 = .ok (.invokevirtual 103, 3) := by decide +kernel
theorem dX0_tellCart_83 : decode cX0_tellCart 83 = .ok (.ireturn, 1) := by decide +kernel
theorem dX0_tellCart_84 : decode cX0_tellCart 84 = .ok (.aload_n 0, 1) := by decide +kernel
theorem dX0_tellCart_85 : decode cX0_tellCart 85 = .ok (.aload_n 1, 1) := by decide +kernel
theorem dX0_tellCart_86 : decode cX0_tellCart 86 = .ok (.getfield 93, 3) := by decide +kernel
theorem dX0_tellCart_89 : decode cX0_tellCart 89 = .ok (.aload_n 1, 1) := by decide +kernel
theorem dX0_tellCart_90 : decode cX0_tellCart 90 = .ok (.getfield 87, 3) := by decide +kernel
theorem dX0_tellCart_93 : decode cX0_tellCart 93 = .ok (.invokevirtual 107, 3) := by decide +kernel
theorem dX0_tellCart_96 : decode cX0_tellCart 96 = .ok (.ireturn, 1) := by decide +kernel
theorem dX0_tellCart_97 : decode cX0_tellCart 97 = .ok (.aload_n 1, 1) := by decide +kernel
theorem dX0_tellCart_98 : decode cX0_tellCart 98 = .ok (.getfield 90, 3) := by decide +kernel
theorem dX0_tellCart_101 : decode cX0_tellCart 101 = .ok (.ireturn, 1) := by decide +kernel
theorem dX0_mixedInto_0 : decode cX0_mixedInto 0 = .ok (.aload_n 0, 1) := by decide +kernel
theorem dX0_mixedInto_1 : decode cX0_mixedInto 1 = .ok (.getfield 37, 3) := by decide +kernel
theorem dX0_mixedInto_4 : decode cX0_mixedInto 4 = .ok (.aload_n 0, 1) := by decide +kernel
theorem dX0_mixedInto_5 : decode cX0_mixedInto 5 = .ok (.getfield 33, 3) := by decide +kernel
theorem dX0_mixedInto_8 : decode cX0_mixedInto 8 = .ok (.lload_n 1, 1) := by decide +kernel
theorem dX0_mixedInto_9 : decode cX0_mixedInto 9 = .ok (.invokevirtual 111, 3) := by decide +kernel
theorem dX0_mixedInto_12 : decode cX0_mixedInto 12 = .ok (.invokevirtual 111, 3) := by decide +kernel
theorem dX0_mixedInto_15 : decode cX0_mixedInto 15 = .ok (.lstore_n 3, 1) := by decide +kernel
theorem dX0_mixedInto_16 : decode cX0_mixedInto 16 = .ok (.iconst 0, 1) := by decide +kernel
theorem dX0_mixedInto_17 : decode cX0_mixedInto 17 = .ok (.istore 5, 2) := by decide +kernel
theorem dX0_mixedInto_19 : decode cX0_mixedInto 19 = .ok (.iload 5, 2) := by decide +kernel
theorem dX0_mixedInto_21 : decode cX0_mixedInto 21 = .ok (.aload_n 0, 1) := by decide +kernel
theorem dX0_mixedInto_22 : decode cX0_mixedInto 22 = .ok (.getfield 50, 3) := by decide +kernel
theorem dX0_mixedInto_25 : decode cX0_mixedInto 25 = .ok (.if_icmp .ge 51, 3) := by decide +kernel
theorem dX0_mixedInto_28 : decode cX0_mixedInto 28 = .ok (.aload_n 0, 1) := by decide +kernel
theorem dX0_mixedInto_29 : decode cX0_mixedInto 29 = .ok (.iload 5, 2) := by decide +kernel
theorem dX0_mixedInto_31 : decode cX0_mixedInto 31 = .ok (.invokevirtual 57, 3) := by decide +kernel
theorem dX0_mixedInto_34 : decode cX0_mixedInto 34 = .ok (.astore 6, 2) := by decide +kernel
theorem dX0_mixedInto_36 : decode cX0_mixedInto 36 = .ok (.iconst 0, 1) := by decide +kernel
theorem dX0_mixedInto_37 : decode cX0_mixedInto 37 = .ok (.istore 7, 2) := by decide +kernel
theorem dX0_mixedInto_39 : decode cX0_mixedInto 39 = .ok (.aload 6, 2) := by decide +kernel
theorem dX0_mixedInto_41 : decode cX0_mixedInto 41 = .ok (.ifnull 29, 3) := by decide +kernel
theorem dX0_mixedInto_44 : decode cX0_mixedInto 44 = .ok (.iload 7, 2) := by decide +kernel
theorem dX0_mixedInto_46 : decode cX0_mixedInto 46 = .ok (.bipush 9, 2) := by decide +kernel
theorem dX0_mixedInto_48 : decode cX0_mixedInto 48 = .ok (.if_icmp .ge 22, 3) := by decide +kernel
theorem dX0_mixedInto_51 : decode cX0_mixedInto 51 = .ok (.lload_n 3, 1) := by decide +kernel
theorem dX0_mixedInto_52 : decode cX0_mixedInto 52 = .ok (.aload_n 0, 1) := by decide +kernel
theorem dX0_mixedInto_53 : decode cX0_mixedInto 53 = .ok (.aload 6, 2) := by decide +kernel
theorem dX0_mixedInto_55 : decode cX0_mixedInto 55 = .ok (.iload 7, 2) := by decide +kernel
theorem dX0_mixedInto_57 : decode cX0_mixedInto 57 = .ok (.invokevirtual 115, 3) := by decide +kernel
theorem dX0_mixedInto_60 : decode cX0_mixedInto 60 = .ok (.invokestatic 119, 3) := by decide +kernel
theorem dX0_mixedInto_63 : decode cX0_mixedInto 63 = .ok (.lstore_n 3, 1) := by decide +kernel
theorem dX0_mixedInto_64 : decode cX0_mixedInto 64 = .ok (.iinc 7 1, 3) := by decide +kernel
theorem dX0_mixedInto_67 : decode cX0_mixedInto 67 = .ok (.goto (-28), 3) := by decide +kernel
theorem dX0_mixedInto_70 : decode cX0_mixedInto 70 = .ok (.iinc 5 1, 3) := by decide +kernel
theorem dX0_mixedInto_73 : decode cX0_mixedInto 73 = .ok (.goto (-54), 3) := by decide +kernel
theorem dX0_mixedInto_76 : decode cX0_mixedInto 76 = .ok (.lload_n 3, 1) := by decide +kernel
theorem dX0_mixedInto_77 : decode cX0_mixedInto 77 = .ok (.lreturn, 1) := by decide +kernel
theorem dX0_copyFrom_0 : decode cX0_copyFrom 0 = .ok (.aload_n 0, 1) := by decide +kernel
theorem dX0_copyFrom_1 : decode cX0_copyFrom 1 = .ok (.aload_n 1, 1) := by decide +kernel
theorem dX0_copyFrom_2 : decode cX0_copyFrom 2 = .ok (.getfield 71, 3) := by decide +kernel
theorem dX0_copyFrom_5 : decode cX0_copyFrom 5 = .ok (.putfield 71, 3) := by decide +kernel
theorem dX0_copyFrom_8 : decode cX0_copyFrom 8 = .ok (.aload_n 0, 1) := by decide +kernel
theorem dX0_copyFrom_9 : decode cX0_copyFrom 9 = .ok (.aload_n 1, 1) := by decide +kernel
theorem dX0_copyFrom_10 : decode cX0_copyFrom 10 = .ok (.getfield 61, 3) := by decide +kernel
theorem dX0_copyFrom_13 : decode cX0_copyFrom 13 = .ok (.putfield 61, 3) := by decide +kernel
theorem dX0_copyFrom_16 : decode cX0_copyFrom 16 = .ok (.aload_n 0, 1) := by decide +kernel
theorem dX0_copyFrom_17 : decode cX0_copyFrom 17 = .ok (.aload_n 1, 1) := by decide +kernel
theorem dX0_copyFrom_18 : decode cX0_copyFrom 18 = .ok (.getfield 9, 3) := by decide +kernel
theorem dX0_copyFrom_21 : decode cX0_copyFrom 21 = .ok (.putfield 9, 3) := by decide +kernel
theorem dX0_copyFrom_24 : decode cX0_copyFrom 24 = .ok (.aload_n 0, 1) := by decide +kernel
theorem dX0_copyFrom_25 : decode cX0_copyFrom 25 = .ok (.aload_n 1, 1) := by decide +kernel
theorem dX0_copyFrom_26 : decode cX0_copyFrom 26 = .ok (.getfield 15, 3) := by decide +kernel
theorem dX0_copyFrom_29 : decode cX0_copyFrom 29 = .ok (.putfield 15, 3) := by decide +kernel
theorem dX0_copyFrom_32 : decode cX0_copyFrom 32 = .ok (.aload_n 0, 1) := by decide +kernel
theorem dX0_copyFrom_33 : decode cX0_copyFrom 33 = .ok (.aload_n 1, 1) := by decide +kernel
theorem dX0_copyFrom_34 : decode cX0_copyFrom 34 = .ok (.getfield 18, 3) := by decide +kernel
theorem dX0_copyFrom_37 : decode cX0_copyFrom 37 = .ok (.putfield 18, 3) := by decide +kernel
theorem dX0_copyFrom_40 : decode cX0_copyFrom 40 = .ok (.aload_n 0, 1) := by decide +kernel
theorem dX0_copyFrom_41 : decode cX0_copyFrom 41 = .ok (.aload_n 1, 1) := by decide +kernel
theorem dX0_copyFrom_42 : decode cX0_copyFrom 42 = .ok (.getfield 21, 3) := by decide +kernel
theorem dX0_copyFrom_45 : decode cX0_copyFrom 45 = .ok (.putfield 21, 3) := by decide +kernel
theorem dX0_copyFrom_48 : decode cX0_copyFrom 48 = .ok (.aload_n 0, 1) := by decide +kernel
theorem dX0_copyFrom_49 : decode cX0_copyFrom 49 = .ok (.aload_n 1, 1) := by decide +kernel
theorem dX0_copyFrom_50 : decode cX0_copyFrom 50 = .ok (.getfield 50, 3) := by decide +kernel
theorem dX0_copyFrom_53 : decode cX0_copyFrom 53 = .ok (.putfield 50, 3) := by decide +kernel
theorem dX0_copyFrom_56 : decode cX0_copyFrom 56 = .ok (.iconst 0, 1) := by decide +kernel
theorem dX0_copyFrom_57 : decode cX0_copyFrom 57 = .ok (.istore_n 2, 1) := by decide +kernel
theorem dX0_copyFrom_58 : decode cX0_copyFrom 58 = .ok (.iload_n 2, 1) := by decide +kernel
theorem dX0_copyFrom_59 : decode cX0_copyFrom 59 = .ok (.aload_n 0, 1) := by decide +kernel
theorem dX0_copyFrom_60 : decode cX0_copyFrom 60 = .ok (.getfield 50, 3) := by decide +kernel
theorem dX0_copyFrom_63 : decode cX0_copyFrom 63 = .ok (.if_icmp .ge 37, 3) := by decide +kernel
theorem dX0_copyFrom_66 : decode cX0_copyFrom 66 = .ok (.aload_n 0, 1) := by decide +kernel
theorem dX0_copyFrom_67 : decode cX0_copyFrom 67 = .ok (.iload_n 2, 1) := by decide +kernel
theorem dX0_copyFrom_68 : decode cX0_copyFrom 68 = .ok (.invokevirtual 57, 3) := by decide +kernel
theorem dX0_copyFrom_71 : decode cX0_copyFrom 71 = .ok (.astore_n 3, 1) := by decide +kernel
theorem dX0_copyFrom_72 : decode cX0_copyFrom 72 = .ok (.aload_n 1, 1) := by decide +kernel
theorem dX0_copyFrom_73 : decode cX0_copyFrom 73 = .ok (.iload_n 2, 1) := by decide +kernel
theorem dX0_copyFrom_74 : decode cX0_copyFrom 74 = .ok (.invokevirtual 57, 3) := by decide +kernel
theorem dX0_copyFrom_77 : decode cX0_copyFrom 77 = .ok (.astore 4, 2) := by decide +kernel
theorem dX0_copyFrom_79 : decode cX0_copyFrom 79 = .ok (.aload_n 3, 1) := by decide +kernel
theorem dX0_copyFrom_80 : decode cX0_copyFrom 80 = .ok (.ifnull 14, 3) := by decide +kernel
theorem dX0_copyFrom_83 : decode cX0_copyFrom 83 = .ok (.aload 4, 2) := by decide +kernel
theorem dX0_copyFrom_85 : decode cX0_copyFrom 85 = .ok (.ifnull 9, 3) := by decide +kernel
theorem dX0_copyFrom_88 : decode cX0_copyFrom 88 = .ok (.aload_n 3, 1) := by decide +kernel
theorem dX0_copyFrom_89 : decode cX0_copyFrom 89 = .ok (.aload 4, 2) := by decide +kernel
theorem dX0_copyFrom_91 : decode cX0_copyFrom 91 = .ok (.invokevirtual 123, 3) := by decide +kernel
theorem dX0_copyFrom_94 : decode cX0_copyFrom 94 = .ok (.iinc 2 1, 3) := by decide +kernel
theorem dX0_copyFrom_97 : decode cX0_copyFrom 97 = .ok (.goto (-39), 3) := by decide +kernel
theorem dX0_copyFrom_100 : decode cX0_copyFrom 100 = .ok (.aload_n 0, 1) := by decide +kernel
theorem dX0_copyFrom_101 : decode cX0_copyFrom 101 = .ok (.getfield 33, 3) := by decide +kernel
theorem dX0_copyFrom_104 : decode cX0_copyFrom 104 = .ok (.aload_n 1, 1) := by decide +kernel
theorem dX0_copyFrom_105 : decode cX0_copyFrom 105 = .ok (.getfield 33, 3) := by decide +kernel
theorem dX0_copyFrom_108 : decode cX0_copyFrom 108 = .ok (.invokevirtual 127, 3) := by decide +kernel
theorem dX0_copyFrom_111 : decode cX0_copyFrom 111 = .ok (.aload_n 0, 1) := by decide +kernel
theorem dX0_copyFrom_112 : decode cX0_copyFrom 112 = .ok (.getfield 37, 3) := by decide +kernel
theorem dX0_copyFrom_115 : decode cX0_copyFrom 115 = .ok (.aload_n 1, 1) := by decide +kernel
theorem dX0_copyFrom_116 : decode cX0_copyFrom 116 = .ok (.getfield 37, 3) := by decide +kernel
theorem dX0_copyFrom_119 : decode cX0_copyFrom 119 = .ok (.invokevirtual 127, 3) := by decide +kernel
theorem dX0_copyFrom_122 : decode cX0_copyFrom 122 = .ok (.aload_n 0, 1) := by decide +kernel
theorem dX0_copyFrom_123 : decode cX0_copyFrom 123 = .ok (.getfield 43, 3) := by decide +kernel
theorem dX0_copyFrom_126 : decode cX0_copyFrom 126 = .ok (.aload_n 1, 1) := by decide +kernel
theorem dX0_copyFrom_127 : decode cX0_copyFrom 127 = .ok (.getfield 43, 3) := by decide +kernel
theorem dX0_copyFrom_130 : decode cX0_copyFrom 130 = .ok (.invokevirtual 130, 3) := by decide +kernel
theorem dX0_copyFrom_133 : decode cX0_copyFrom 133 = .ok (.return_, 1) := by decide +kernel
theorem dX0_placeOf_0 : decode cX0_placeOf 0 = .ok (.aload_n 1, 1) := by decide +kernel
theorem dX0_placeOf_1 : decode cX0_placeOf 1 = .ok (.getfield 74, 3) := by decide +kernel
theorem dX0_placeOf_4 : decode cX0_placeOf 4 = .ok (.iconst 1, 1) := by decide +kernel
theorem dX0_placeOf_5 : decode cX0_placeOf 5 = .ok (.if_icmp .eq 5, 3) := by decide +kernel
theorem dX0_placeOf_8 : decode cX0_placeOf 8 = .ok (.iconst (-1), 1) := by decide +kernel
theorem dX0_placeOf_9 : decode cX0_placeOf 9 = .ok (.ireturn, 1) := by decide +kernel
theorem dX0_placeOf_10 : decode cX0_placeOf 10 = .ok (.aload_n 1, 1) := by decide +kernel
theorem dX0_placeOf_11 : decode cX0_placeOf 11 = .ok (.getfield 100, 3) := by decide +kernel
theorem dX0_placeOf_14 : decode cX0_placeOf 14 = .ok (.ifCond .ne 10, 3) := by decide +kernel
theorem dX0_placeOf_17 : decode cX0_placeOf 17 = .ok (.aload_n 1, 1) := by decide +kernel
theorem dX0_placeOf_18 : decode cX0_placeOf 18 = .ok (.getfield 133, 3) := by decide +kernel
theorem dX0_placeOf_21 : decode cX0_placeOf 21 = .ok (.goto 14, 3) := by decide +kernel
theorem dX0_placeOf_24 : decode cX0_placeOf 24 = .ok (.aload_n 0, 1) := by decide +kernel
theorem dX0_placeOf_25 : decode cX0_placeOf 25 = .ok (.getfield 9, 3) := by decide +kernel
theorem dX0_placeOf_28 : decode cX0_placeOf 28 = .ok (.iconst 1, 1) := by decide +kernel
theorem dX0_placeOf_29 : decode cX0_placeOf 29 = .ok (.isub, 1) := by decide +kernel
theorem dX0_placeOf_30 : decode cX0_placeOf 30 = .ok (.aload_n 1, 1) := by decide +kernel
theorem dX0_placeOf_31 : decode cX0_placeOf 31 = .ok (.getfield 133, 3) := by decide +kernel
theorem dX0_placeOf_34 : decode cX0_placeOf 34 = .ok (.isub, 1) := by decide +kernel
theorem dX0_placeOf_35 : decode cX0_placeOf 35 = .ok (.ireturn, 1) := by decide +kernel
theorem dX0_tollFor_0 : decode cX0_tollFor 0 = .ok (.iload_n 1, 1) := by decide +kernel
theorem dX0_tollFor_1 : decode cX0_tollFor 1 = .ok (.aload_n 0, 1) := by decide +kernel
theorem dX0_tollFor_2 : decode cX0_tollFor 2 = .ok (.getfield 18, 3) := by decide +kernel
theorem dX0_tollFor_5 : decode cX0_tollFor 5 = .ok (.imul, 1) := by decide +kernel
theorem dX0_tollFor_6 : decode cX0_tollFor 6 = .ok (.iload_n 2, 1) := by decide +kernel
theorem dX0_tollFor_7 : decode cX0_tollFor 7 = .ok (.bipush 10, 2) := by decide +kernel
theorem dX0_tollFor_9 : decode cX0_tollFor 9 = .ok (.idiv, 1) := by decide +kernel
theorem dX0_tollFor_10 : decode cX0_tollFor 10 = .ok (.aload_n 0, 1) := by decide +kernel
theorem dX0_tollFor_11 : decode cX0_tollFor 11 = .ok (.getfield 21, 3) := by decide +kernel
theorem dX0_tollFor_14 : decode cX0_tollFor 14 = .ok (.imul, 1) := by decide +kernel
theorem dX0_tollFor_15 : decode cX0_tollFor 15 = .ok (.iadd, 1) := by decide +kernel
theorem dX0_tollFor_16 : decode cX0_tollFor 16 = .ok (.ireturn, 1) := by decide +kernel
theorem dX0_move_0 : decode cX0_move 0 = .ok (.aload_n 0, 1) := by decide +kernel
theorem dX0_move_1 : decode cX0_move 1 = .ok (.aload_n 0, 1) := by decide +kernel
theorem dX0_move_2 : decode cX0_move 2 = .ok (.getfield 43, 3) := by decide +kernel
theorem dX0_move_5 : decode cX0_move 5 = .ok (.iconst 0, 1) := by decide +kernel
theorem dX0_move_6 : decode cX0_move 6 = .ok (.invokevirtual 83, 3) := by decide +kernel
theorem dX0_move_9 : decode cX0_move 9 = .ok (.invokevirtual 57, 3) := by decide +kernel
theorem dX0_move_12 : decode cX0_move 12 = .ok (.astore_n 1, 1) := by decide +kernel
theorem dX0_move_13 : decode cX0_move 13 = .ok (.aload_n 1, 1) := by decide +kernel
theorem dX0_move_14 : decode cX0_move 14 = .ok (.ifnonnull 5, 3) := by decide +kernel
theorem dX0_move_17 : decode cX0_move 17 = .ok (.iconst 0, 1) := by decide +kernel
theorem dX0_move_18 : decode cX0_move 18 = .ok (.ireturn, 1) := by decide +kernel
theorem dX0_move_19 : decode cX0_move 19 = .ok (.aload_n 1, 1) := by decide +kernel
theorem dX0_move_20 : decode cX0_move 20 = .ok (.getfield 100, 3) := by decide +kernel
theorem dX0_move_23 : decode cX0_move 23 = .ok (.aload_n 0, 1) := by decide +kernel
theorem dX0_move_24 : decode cX0_move 24 = .ok (.getfield 61, 3) := by decide +kernel
theorem dX0_move_27 : decode cX0_move 27 = .ok (.if_icmp .ne 8, 3) := by decide +kernel
theorem dX0_move_30 : decode cX0_move 30 = .ok (.aload_n 0, 1) := by decide +kernel
theorem dX0_move_31 : decode cX0_move 31 = .ok (.invokevirtual 136, 3) := by decide +kernel
theorem dX0_move_34 : decode cX0_move 34 = .ok (.ireturn, 1) := by decide +kernel
theorem dX0_move_35 : decode cX0_move 35 = .ok (.aload_n 0, 1) := by decide +kernel
theorem dX0_move_36 : decode cX0_move 36 = .ok (.invokevirtual 139, 3) := by decide +kernel
theorem dX0_move_39 : decode cX0_move 39 = .ok (.iconst 0, 1) := by decide +kernel
theorem dX0_move_40 : decode cX0_move 40 = .ok (.ireturn, 1) := by decide +kernel
theorem dX0_goOn_0 : decode cX0_goOn 0 = .ok (.iconst 0, 1) := by decide +kernel
theorem dX0_goOn_1 : decode cX0_goOn 1 = .ok (.istore_n 1, 1) := by decide +kernel
theorem dX0_goOn_2 : decode cX0_goOn 2 = .ok (.aload_n 0, 1) := by decide +kernel
theorem dX0_goOn_3 : decode cX0_goOn 3 = .ok (.getfield 9, 3) := by decide +kernel
theorem dX0_goOn_6 : decode cX0_goOn 6 = .ok (.iconst 3, 1) := by decide +kernel
theorem dX0_goOn_7 : decode cX0_goOn 7 = .ok (.iadd, 1) := by decide +kernel
theorem dX0_goOn_8 : decode cX0_goOn 8 = .ok (.istore_n 2, 1) := by decide +kernel
theorem dX0_goOn_9 : decode cX0_goOn 9 = .ok (.iconst 0, 1) := by decide +kernel
theorem dX0_goOn_10 : decode cX0_goOn 10 = .ok (.istore_n 3, 1) := by decide +kernel
theorem dX0_goOn_11 : decode cX0_goOn 11 = .ok (.iload_n 3, 1) := by decide +kernel
theorem dX0_goOn_12 : decode cX0_goOn 12 = .ok (.aload_n 0, 1) := by decide +kernel
theorem dX0_goOn_13 : decode cX0_goOn 13 = .ok (.getfield 43, 3) := by decide +kernel
theorem dX0_goOn_16 : decode cX0_goOn 16 = .ok (.getfield 80, 3) := by decide +kernel
theorem dX0_goOn_19 : decode cX0_goOn 19 = .ok (.if_icmp .ge 90, 3) := by decide +kernel
theorem dX0_goOn_22 : decode cX0_goOn 22 = .ok (.aload_n 0, 1) := by decide +kernel
theorem dX0_goOn_23 : decode cX0_goOn 23 = .ok (.aload_n 0, 1) := by decide +kernel
theorem dX0_goOn_24 : decode cX0_goOn 24 = .ok (.getfield 43, 3) := by decide +kernel
theorem dX0_goOn_27 : decode cX0_goOn 27 = .ok (.iload_n 3, 1) := by decide +kernel
theorem dX0_goOn_28 : decode cX0_goOn 28 = .ok (.invokevirtual 83, 3) := by decide +kernel
theorem dX0_goOn_31 : decode cX0_goOn 31 = .ok (.invokevirtual 57, 3) := by decide +kernel
theorem dX0_goOn_34 : decode cX0_goOn 34 = .ok (.astore 4, 2) := by decide +kernel
theorem dX0_goOn_36 : decode cX0_goOn 36 = .ok (.aload 4, 2) := by decide +kernel
theorem dX0_goOn_38 : decode cX0_goOn 38 = .ok (.ifnonnull 6, 3) := by decide +kernel
theorem dX0_goOn_41 : decode cX0_goOn 41 = .ok (.goto 68, 3) := by decide +kernel
theorem dX0_goOn_44 : decode cX0_goOn 44 = .ok (.aload 4, 2) := by decide +kernel
theorem dX0_goOn_46 : decode cX0_goOn 46 = .ok (.getfield 133, 3) := by decide +kernel
theorem dX0_goOn_49 : decode cX0_goOn 49 = .ok (.aload 4, 2) := by decide +kernel
theorem dX0_goOn_51 : decode cX0_goOn 51 = .ok (.getfield 96, 3) := by decide +kernel
theorem dX0_goOn_54 : decode cX0_goOn 54 = .ok (.iadd, 1) := by decide +kernel
theorem dX0_goOn_55 : decode cX0_goOn 55 = .ok (.iload_n 2, 1) := by decide +kernel
theorem dX0_goOn_56 : decode cX0_goOn 56 = .ok (.invokestatic 142, 3) := by decide +kernel
theorem dX0_goOn_59 : decode cX0_goOn 59 = .ok (.istore 5, 2) := by decide +kernel
theorem dX0_goOn_61 : decode cX0_goOn 61 = .ok (.iload 5, 2) := by decide +kernel
theorem dX0_goOn_63 : decode cX0_goOn 63 = .ok (.aload_n 0, 1) := by decide +kernel
theorem dX0_goOn_64 : decode cX0_goOn 64 = .ok (.getfield 9, 3) := by decide +kernel
theorem dX0_goOn_67 : decode cX0_goOn 67 = .ok (.if_icmp .ge 18, 3) := by decide +kernel
theorem dX0_goOn_70 : decode cX0_goOn 70 = .ok (.aload 4, 2) := by decide +kernel
theorem dX0_goOn_72 : decode cX0_goOn 72 = .ok (.iload 5, 2) := by decide +kernel
theorem dX0_goOn_74 : decode cX0_goOn 74 = .ok (.putfield 133, 3) := by decide +kernel
theorem dX0_goOn_77 : decode cX0_goOn 77 = .ok (.iload 5, 2) := by decide +kernel
theorem dX0_goOn_79 : decode cX0_goOn 79 = .ok (.iconst 1, 1) := by decide +kernel
theorem dX0_goOn_80 : decode cX0_goOn 80 = .ok (.isub, 1) := by decide +kernel
theorem dX0_goOn_81 : decode cX0_goOn 81 = .ok (.istore_n 2, 1) := by decide +kernel
theorem dX0_goOn_82 : decode cX0_goOn 82 = .ok (.goto 21, 3) := by decide +kernel
theorem dX0_goOn_85 : decode cX0_goOn 85 = .ok (.aload 4, 2) := by decide +kernel
theorem dX0_goOn_87 : decode cX0_goOn 87 = .ok (.iconst 2, 1) := by decide +kernel
theorem dX0_goOn_88 : decode cX0_goOn 88 = .ok (.putfield 74, 3) := by decide +kernel
theorem dX0_goOn_91 : decode cX0_goOn 91 = .ok (.aload 4, 2) := by decide +kernel
theorem dX0_goOn_93 : decode cX0_goOn 93 = .ok (.aload_n 0, 1) := by decide +kernel
theorem dX0_goOn_94 : decode cX0_goOn 94 = .ok (.getfield 71, 3) := by decide +kernel
theorem dX0_goOn_97 : decode cX0_goOn 97 = .ok (.putfield 90, 3) := by decide +kernel
theorem dX0_goOn_100 : decode cX0_goOn 100 = .ok (.iinc 1 1, 3) := by decide +kernel
theorem dX0_goOn_103 : decode cX0_goOn 103 = .ok (.iinc 3 1, 3) := by decide +kernel
theorem dX0_goOn_106 : decode cX0_goOn 106 = .ok (.goto (-95), 3) := by decide +kernel
theorem dX0_goOn_109 : decode cX0_goOn 109 = .ok (.iconst 0, 1) := by decide +kernel
theorem dX0_goOn_110 : decode cX0_goOn 110 = .ok (.istore_n 3, 1) := by decide +kernel
theorem dX0_goOn_111 : decode cX0_goOn 111 = .ok (.iload_n 3, 1) := by decide +kernel
theorem dX0_goOn_112 : decode cX0_goOn 112 = .ok (.iload_n 1, 1) := by decide +kernel
theorem dX0_goOn_113 : decode cX0_goOn 113 = .ok (.if_icmp .ge 16, 3) := by decide +kernel
theorem dX0_goOn_116 : decode cX0_goOn 116 = .ok (.aload_n 0, 1) := by decide +kernel
theorem dX0_goOn_117 : decode cX0_goOn 117 = .ok (.getfield 43, 3) := by decide +kernel
theorem dX0_goOn_120 : decode cX0_goOn 120 = .ok (.invokevirtual 147, 3) := by decide +kernel
theorem dX0_goOn_123 : decode cX0_goOn 123 = .ok (.iinc 3 1, 3) := by decide +kernel
theorem dX0_goOn_126 : decode cX0_goOn 126 = .ok (.goto (-15), 3) := by decide +kernel
theorem dX0_goOn_129 : decode cX0_goOn 129 = .ok (.iload_n 1, 1) := by decide +kernel
theorem dX0_goOn_130 : decode cX0_goOn 130 = .ok (.ireturn, 1) := by decide +kernel
theorem dX0_goBack_0 : decode cX0_goBack 0 = .ok (.iconst (-1), 1) := by decide +kernel
theorem dX0_goBack_1 : decode cX0_goBack 1 = .ok (.istore_n 1, 1) := by decide +kernel
theorem dX0_goBack_2 : decode cX0_goBack 2 = .ok (.aload_n 0, 1) := by decide +kernel
theorem dX0_goBack_3 : decode cX0_goBack 3 = .ok (.getfield 43, 3) := by decide +kernel
theorem dX0_goBack_6 : decode cX0_goBack 6 = .ok (.getfield 80, 3) := by decide +kernel
theorem dX0_goBack_9 : decode cX0_goBack 9 = .ok (.iconst 1, 1) := by decide +kernel
theorem dX0_goBack_10 : decode cX0_goBack 10 = .ok (.isub, 1) := by decide +kernel
theorem dX0_goBack_11 : decode cX0_goBack 11 = .ok (.istore_n 2, 1) := by decide +kernel
theorem dX0_goBack_12 : decode cX0_goBack 12 = .ok (.iload_n 2, 1) := by decide +kernel
theorem dX0_goBack_13 : decode cX0_goBack 13 = .ok (.ifCond .lt 90, 3) := by decide +kernel
theorem dX0_goBack_16 : decode cX0_goBack 16 = .ok (.aload_n 0, 1) := by decide +kernel
theorem dX0_goBack_17 : decode cX0_goBack 17 = .ok (.aload_n 0, 1) := by decide +kernel
theorem dX0_goBack_18 : decode cX0_goBack 18 = .ok (.getfield 43, 3) := by decide +kernel
theorem dX0_goBack_21 : decode cX0_goBack 21 = .ok (.iload_n 2, 1) := by decide +kernel
theorem dX0_goBack_22 : decode cX0_goBack 22 = .ok (.invokevirtual 83, 3) := by decide +kernel
theorem dX0_goBack_25 : decode cX0_goBack 25 = .ok (.invokevirtual 57, 3) := by decide +kernel
theorem dX0_goBack_28 : decode cX0_goBack 28 = .ok (.astore_n 3, 1) := by decide +kernel
theorem dX0_goBack_29 : decode cX0_goBack 29 = .ok (.aload_n 3, 1) := by decide +kernel
theorem dX0_goBack_30 : decode cX0_goBack 30 = .ok (.ifnonnull 6, 3) := by decide +kernel
theorem dX0_goBack_33 : decode cX0_goBack 33 = .ok (.goto 70, 3) := by decide +kernel
theorem dX0_goBack_36 : decode cX0_goBack 36 = .ok (.aload_n 3, 1) := by decide +kernel
theorem dX0_goBack_37 : decode cX0_goBack 37 = .ok (.getfield 133, 3) := by decide +kernel
theorem dX0_goBack_40 : decode cX0_goBack 40 = .ok (.iconst 1, 1) := by decide +kernel
theorem dX0_goBack_41 : decode cX0_goBack 41 = .ok (.isub, 1) := by decide +kernel
theorem dX0_goBack_42 : decode cX0_goBack 42 = .ok (.iload_n 1, 1) := by decide +kernel
theorem dX0_goBack_43 : decode cX0_goBack 43 = .ok (.invokestatic 150, 3) := by decide +kernel
theorem dX0_goBack_46 : decode cX0_goBack 46 = .ok (.istore 4, 2) := by decide +kernel
theorem dX0_goBack_48 : decode cX0_goBack 48 = .ok (.iload 4, 2) := by decide +kernel
theorem dX0_goBack_50 : decode cX0_goBack 50 = .ok (.ifCond .lt 17, 3) := by decide +kernel
theorem dX0_goBack_53 : decode cX0_goBack 53 = .ok (.aload_n 3, 1) := by decide +kernel
theorem dX0_goBack_54 : decode cX0_goBack 54 = .ok (.iload 4, 2) := by decide +kernel
theorem dX0_goBack_56 : decode cX0_goBack 56 = .ok (.putfield 133, 3) := by decide +kernel
theorem dX0_goBack_59 : decode cX0_goBack 59 = .ok (.iload 4, 2) := by decide +kernel
theorem dX0_goBack_61 : decode cX0_goBack 61 = .ok (.iconst 1, 1) := by decide +kernel
theorem dX0_goBack_62 : decode cX0_goBack 62 = .ok (.iadd, 1) := by decide +kernel
theorem dX0_goBack_63 : decode cX0_goBack 63 = .ok (.istore_n 1, 1) := by decide +kernel
theorem dX0_goBack_64 : decode cX0_goBack 64 = .ok (.goto 33, 3) := by decide +kernel
theorem dX0_goBack_67 : decode cX0_goBack 67 = .ok (.aload_n 3, 1) := by decide +kernel
theorem dX0_goBack_68 : decode cX0_goBack 68 = .ok (.iconst 0, 1) := by decide +kernel
theorem dX0_goBack_69 : decode cX0_goBack 69 = .ok (.putfield 74, 3) := by decide +kernel
theorem dX0_goBack_72 : decode cX0_goBack 72 = .ok (.aload_n 0, 1) := by decide +kernel
theorem dX0_goBack_73 : decode cX0_goBack 73 = .ok (.aload_n 3, 1) := by decide +kernel
theorem dX0_goBack_74 : decode cX0_goBack 74 = .ok (.getfield 100, 3) := by decide +kernel
theorem dX0_goBack_77 : decode cX0_goBack 77 = .ok (.invokevirtual 153, 3) := by decide +kernel
theorem dX0_goBack_80 : decode cX0_goBack 80 = .ok (.getfield 157, 3) := by decide +kernel
theorem dX0_goBack_83 : decode cX0_goBack 83 = .ok (.aload_n 3, 1) := by decide +kernel
theorem dX0_goBack_84 : decode cX0_goBack 84 = .ok (.getfield 160, 3) := by decide +kernel
theorem dX0_goBack_87 : decode cX0_goBack 87 = .ok (.invokevirtual 163, 3) := by decide +kernel
theorem dX0_goBack_90 : decode cX0_goBack 90 = .ok (.aload_n 0, 1) := by decide +kernel
theorem dX0_goBack_91 : decode cX0_goBack 91 = .ok (.getfield 43, 3) := by decide +kernel
theorem dX0_goBack_94 : decode cX0_goBack 94 = .ok (.invokevirtual 166, 3) := by decide +kernel
theorem dX0_goBack_97 : decode cX0_goBack 97 = .ok (.iinc 2 (-1), 3) := by decide +kernel
theorem dX0_goBack_100 : decode cX0_goBack 100 = .ok (.goto (-88), 3) := by decide +kernel
theorem dX0_goBack_103 : decode cX0_goBack 103 = .ok (.return_, 1) := by decide +kernel
theorem dX0_comeOn_0 : decode cX0_comeOn 0 = .ok (.aload_n 0, 1) := by decide +kernel
theorem dX0_comeOn_1 : decode cX0_comeOn 1 = .ok (.aload_n 0, 1) := by decide +kernel
theorem dX0_comeOn_2 : decode cX0_comeOn 2 = .ok (.getfield 61, 3) := by decide +kernel
theorem dX0_comeOn_5 : decode cX0_comeOn 5 = .ok (.invokevirtual 153, 3) := by decide +kernel
theorem dX0_comeOn_8 : decode cX0_comeOn 8 = .ok (.astore_n 1, 1) := by decide +kernel
theorem dX0_comeOn_9 : decode cX0_comeOn 9 = .ok (.aload_n 0, 1) := by decide +kernel
theorem dX0_comeOn_10 : decode cX0_comeOn 10 = .ok (.aload_n 1, 1) := by decide +kernel
theorem dX0_comeOn_11 : decode cX0_comeOn 11 = .ok (.getfield 157, 3) := by decide +kernel
theorem dX0_comeOn_14 : decode cX0_comeOn 14 = .ok (.iconst 0, 1) := by decide +kernel
theorem dX0_comeOn_15 : decode cX0_comeOn 15 = .ok (.invokevirtual 83, 3) := by decide +kernel
theorem dX0_comeOn_18 : decode cX0_comeOn 18 = .ok (.invokevirtual 57, 3) := by decide +kernel
theorem dX0_comeOn_21 : decode cX0_comeOn 21 = .ok (.astore_n 2, 1) := by decide +kernel
theorem dX0_comeOn_22 : decode cX0_comeOn 22 = .ok (.aload_n 2, 1) := by decide +kernel
theorem dX0_comeOn_23 : decode cX0_comeOn 23 = .ok (.ifnull 11, 3) := by decide +kernel
theorem dX0_comeOn_26 : decode cX0_comeOn 26 = .ok (.aload_n 0, 1) := by decide +kernel
theorem dX0_comeOn_27 : decode cX0_comeOn 27 = .ok (.aload_n 2, 1) := by decide +kernel
theorem dX0_comeOn_28 : decode cX0_comeOn 28 = .ok (.invokevirtual 169, 3) := by decide +kernel
theorem dX0_comeOn_31 : decode cX0_comeOn 31 = .ok (.ifCond .ne 4, 3) := by decide +kernel
theorem dX0_comeOn_34 : decode cX0_comeOn 34 = .ok (.return_, 1) := by decide +kernel
theorem dX0_comeOn_35 : decode cX0_comeOn 35 = .ok (.aload_n 1, 1) := by decide +kernel
theorem dX0_comeOn_36 : decode cX0_comeOn 36 = .ok (.getfield 157, 3) := by decide +kernel
theorem dX0_comeOn_39 : decode cX0_comeOn 39 = .ok (.invokevirtual 147, 3) := by decide +kernel
theorem dX0_comeOn_42 : decode cX0_comeOn 42 = .ok (.aload_n 2, 1) := by decide +kernel
theorem dX0_comeOn_43 : decode cX0_comeOn 43 = .ok (.getfield 173, 3) := by decide +kernel
theorem dX0_comeOn_46 : decode cX0_comeOn 46 = .ok (.ifCond .ne 12, 3) := by decide +kernel
theorem dX0_comeOn_49 : decode cX0_comeOn 49 = .ok (.aload_n 0, 1) := by decide +kernel
theorem dX0_comeOn_50 : decode cX0_comeOn 50 = .ok (.aload_n 2, 1) := by decide +kernel
theorem dX0_comeOn_51 : decode cX0_comeOn 51 = .ok (.aload_n 1, 1) := by decide +kernel
theorem dX0_comeOn_52 : decode cX0_comeOn 52 = .ok (.invokevirtual 177, 3) := by decide +kernel
theorem dX0_comeOn_55 : decode cX0_comeOn 55 = .ok (.ifCond .eq 27, 3) := by decide +kernel
theorem dX0_comeOn_58 : decode cX0_comeOn 58 = .ok (.aload_n 2, 1) := by decide +kernel
theorem dX0_comeOn_59 : decode cX0_comeOn 59 = .ok (.iconst 1, 1) := by decide +kernel
theorem dX0_comeOn_60 : decode cX0_comeOn 60 = .ok (.putfield 74, 3) := by decide +kernel
theorem dX0_comeOn_63 : decode cX0_comeOn 63 = .ok (.aload_n 2, 1) := by decide +kernel
theorem dX0_comeOn_64 : decode cX0_comeOn 64 = .ok (.iconst 0, 1) := by decide +kernel
theorem dX0_comeOn_65 : decode cX0_comeOn 65 = .ok (.putfield 133, 3) := by decide +kernel
theorem dX0_comeOn_68 : decode cX0_comeOn 68 = .ok (.aload_n 0, 1) := by decide +kernel
theorem dX0_comeOn_69 : decode cX0_comeOn 69 = .ok (.getfield 43, 3) := by decide +kernel
theorem dX0_comeOn_72 : decode cX0_comeOn 72 = .ok (.aload_n 2, 1) := by decide +kernel
theorem dX0_comeOn_73 : decode cX0_comeOn 73 = .ok (.getfield 160, 3) := by decide +kernel
theorem dX0_comeOn_76 : decode cX0_comeOn 76 = .ok (.invokevirtual 181, 3) := by decide +kernel
theorem dX0_comeOn_79 : decode cX0_comeOn 79 = .ok (.goto 8, 3) := by decide +kernel
theorem dX0_comeOn_82 : decode cX0_comeOn 82 = .ok (.aload_n 2, 1) := by decide +kernel
theorem dX0_comeOn_83 : decode cX0_comeOn 83 = .ok (.iconst 3, 1) := by decide +kernel
theorem dX0_comeOn_84 : decode cX0_comeOn 84 = .ok (.putfield 74, 3) := by decide +kernel
theorem dX0_comeOn_87 : decode cX0_comeOn 87 = .ok (.return_, 1) := by decide +kernel
theorem dX0_hasRoomFor_0 : decode cX0_hasRoomFor 0 = .ok (.aload_n 0, 1) := by decide +kernel
theorem dX0_hasRoomFor_1 : decode cX0_hasRoomFor 1 = .ok (.aload_n 0, 1) := by decide +kernel
theorem dX0_hasRoomFor_2 : decode cX0_hasRoomFor 2 = .ok (.getfield 43, 3) := by decide +kernel
theorem dX0_hasRoomFor_5 : decode cX0_hasRoomFor 5 = .ok (.invokevirtual 184, 3) := by decide +kernel
theorem dX0_hasRoomFor_8 : decode cX0_hasRoomFor 8 = .ok (.invokevirtual 57, 3) := by decide +kernel
theorem dX0_hasRoomFor_11 : decode cX0_hasRoomFor 11 = .ok (.astore_n 2, 1) := by decide +kernel
theorem dX0_hasRoomFor_12 : decode cX0_hasRoomFor 12 = .ok (.aload_n 2, 1) := by decide +kernel
theorem dX0_hasRoomFor_13 : decode cX0_hasRoomFor 13 = .ok (.ifnull 21, 3) := by decide +kernel
theorem dX0_hasRoomFor_16 : decode cX0_hasRoomFor 16 = .ok (.aload_n 2, 1) := by decide +kernel
theorem dX0_hasRoomFor_17 : decode cX0_hasRoomFor 17 = .ok (.getfield 100, 3) := by decide +kernel
theorem dX0_hasRoomFor_20 : decode cX0_hasRoomFor 20 = .ok (.aload_n 0, 1) := by decide +kernel
theorem dX0_hasRoomFor_21 : decode cX0_hasRoomFor 21 = .ok (.getfield 61, 3) := by decide +kernel
theorem dX0_hasRoomFor_24 : decode cX0_hasRoomFor 24 = .ok (.if_icmp .ne 14, 3) := by decide +kernel
theorem dX0_hasRoomFor_27 : decode cX0_hasRoomFor 27 = .ok (.aload_n 2, 1) := by decide +kernel
theorem dX0_hasRoomFor_28 : decode cX0_hasRoomFor 28 = .ok (.getfield 133, 3) := by decide +kernel
theorem dX0_hasRoomFor_31 : decode cX0_hasRoomFor 31 = .ok (.ifCond .le 7, 3) := by decide +kernel
theorem dX0_hasRoomFor_34 : decode cX0_hasRoomFor 34 = .ok (.iconst 1, 1) := by decide +kernel
theorem dX0_hasRoomFor_35 : decode cX0_hasRoomFor 35 = .ok (.goto 4, 3) := by decide +kernel
theorem dX0_hasRoomFor_38 : decode cX0_hasRoomFor 38 = .ok (.iconst 0, 1) := by decide +kernel
theorem dX0_hasRoomFor_39 : decode cX0_hasRoomFor 39 = .ok (.istore_n 3, 1) := by decide +kernel
theorem dX0_hasRoomFor_40 : decode cX0_hasRoomFor 40 = .ok (.iload_n 3, 1) := by decide +kernel
theorem dX0_hasRoomFor_41 : decode cX0_hasRoomFor 41 = .ok (.ifCond .eq 23, 3) := by decide +kernel
theorem dX0_hasRoomFor_44 : decode cX0_hasRoomFor 44 = .ok (.aload_n 0, 1) := by decide +kernel
theorem dX0_hasRoomFor_45 : decode cX0_hasRoomFor 45 = .ok (.invokevirtual 187, 3) := by decide +kernel
theorem dX0_hasRoomFor_48 : decode cX0_hasRoomFor 48 = .ok (.aload_n 1, 1) := by decide +kernel
theorem dX0_hasRoomFor_49 : decode cX0_hasRoomFor 49 = .ok (.getfield 87, 3) := by decide +kernel
theorem dX0_hasRoomFor_52 : decode cX0_hasRoomFor 52 = .ok (.iadd, 1) := by decide +kernel
theorem dX0_hasRoomFor_53 : decode cX0_hasRoomFor 53 = .ok (.aload_n 0, 1) := by decide +kernel
theorem dX0_hasRoomFor_54 : decode cX0_hasRoomFor 54 = .ok (.getfield 15, 3) := by decide +kernel
theorem dX0_hasRoomFor_57 : decode cX0_hasRoomFor 57 = .ok (.if_icmp .gt 7, 3) := by decide +kernel
theorem dX0_hasRoomFor_60 : decode cX0_hasRoomFor 60 = .ok (.iconst 1, 1) := by decide +kernel
theorem dX0_hasRoomFor_61 : decode cX0_hasRoomFor 61 = .ok (.goto 4, 3) := by decide +kernel
theorem dX0_hasRoomFor_64 : decode cX0_hasRoomFor 64 = .ok (.iconst 0, 1) := by decide +kernel
theorem dX0_hasRoomFor_65 : decode cX0_hasRoomFor 65 = .ok (.ireturn, 1) := by decide +kernel
theorem dX0_pays_0 : decode cX0_pays 0 = .ok (.aload_n 0, 1) := by decide +kernel
theorem dX0_pays_1 : decode cX0_pays 1 = .ok (.aload_n 1, 1) := by decide +kernel
theorem dX0_pays_2 : decode cX0_pays 2 = .ok (.getfield 93, 3) := by decide +kernel
theorem dX0_pays_5 : decode cX0_pays 5 = .ok (.aload_n 1, 1) := by decide +kernel
theorem dX0_pays_6 : decode cX0_pays 6 = .ok (.getfield 87, 3) := by decide +kernel
theorem dX0_pays_9 : decode cX0_pays 9 = .ok (.invokevirtual 107, 3) := by decide +kernel
theorem dX0_pays_12 : decode cX0_pays 12 = .ok (.istore_n 3, 1) := by decide +kernel
theorem dX0_pays_13 : decode cX0_pays 13 = .ok (.aload_n 1, 1) := by decide +kernel
theorem dX0_pays_14 : decode cX0_pays 14 = .ok (.getfield 190, 3) := by decide +kernel
theorem dX0_pays_17 : decode cX0_pays 17 = .ok (.ifCond .eq 15, 3) := by decide +kernel
theorem dX0_pays_20 : decode cX0_pays 20 = .ok (.aload_n 0, 1) := by decide +kernel
theorem dX0_pays_21 : decode cX0_pays 21 = .ok (.iconst 1, 1) := by decide +kernel
theorem dX0_pays_22 : decode cX0_pays 22 = .ok (.aload_n 1, 1) := by decide +kernel
theorem dX0_pays_23 : decode cX0_pays 23 = .ok (.getfield 87, 3) := by decide +kernel
theorem dX0_pays_26 : decode cX0_pays 26 = .ok (.invokevirtual 107, 3) := by decide +kernel
theorem dX0_pays_29 : decode cX0_pays 29 = .ok (.goto 4, 3) := by decide +kernel
theorem dX0_pays_32 : decode cX0_pays 32 = .ok (.iload_n 3, 1) := by decide +kernel
theorem dX0_pays_33 : decode cX0_pays 33 = .ok (.istore 4, 2) := by decide +kernel
theorem dX0_pays_35 : decode cX0_pays 35 = .ok (.aload_n 1, 1) := by decide +kernel
theorem dX0_pays_36 : decode cX0_pays 36 = .ok (.getfield 99, 3) := by decide +kernel
theorem dX0_pays_39 : decode cX0_pays 39 = .ok (.iload 4, 2) := by decide +kernel
theorem dX0_pays_41 : decode cX0_pays 41 = .ok (.if_icmp .ge 5, 3) := by decide +kernel
theorem dX0_pays_44 : decode cX0_pays 44 = .ok (.iconst 0, 1) := by decide +kernel
theorem dX0_pays_45 : decode cX0_pays 45 = .ok (.ireturn, 1) := by decide +kernel
theorem dX0_pays_46 : decode cX0_pays 46 = .ok (.aload_n 1, 1) := by decide +kernel
theorem dX0_pays_47 : decode cX0_pays 47 = .ok (.dup, 1) := by decide +kernel
theorem dX0_pays_48 : decode cX0_pays 48 = .ok (.getfield 99, 3) := by decide +kernel
theorem dX0_pays_51 : decode cX0_pays 51 = .ok (.iload 4, 2) := by decide +kernel
theorem dX0_pays_53 : decode cX0_pays 53 = .ok (.isub, 1) := by decide +kernel
theorem dX0_pays_54 : decode cX0_pays 54 = .ok (.putfield 99, 3) := by decide +kernel
theorem dX0_pays_57 : decode cX0_pays 57 = .ok (.aload_n 1, 1) := by decide +kernel
theorem dX0_pays_58 : decode cX0_pays 58 = .ok (.iconst 1, 1) := by decide +kernel
theorem dX0_pays_59 : decode cX0_pays 59 = .ok (.putfield 173, 3) := by decide +kernel
theorem dX0_pays_62 : decode cX0_pays 62 = .ok (.aload_n 2, 1) := by decide +kernel
theorem dX0_pays_63 : decode cX0_pays 63 = .ok (.aload_n 1, 1) := by decide +kernel
theorem dX0_pays_64 : decode cX0_pays 64 = .ok (.iload 4, 2) := by decide +kernel
theorem dX0_pays_66 : decode cX0_pays 66 = .ok (.iload_n 3, 1) := by decide +kernel
theorem dX0_pays_67 : decode cX0_pays 67 = .ok (.invokevirtual 193, 3) := by decide +kernel
theorem dX0_pays_70 : decode cX0_pays 70 = .ok (.iconst 1, 1) := by decide +kernel
theorem dX0_pays_71 : decode cX0_pays 71 = .ok (.ireturn, 1) := by decide +kernel
theorem dX1_init_0 : decode cX1_init 0 = .ok (.aload_n 0, 1) := by decide +kernel
theorem dX1_init_1 : decode cX1_init 1 = .ok (.invokespecial 3, 3) := by decide +kernel
theorem dX1_init_4 : decode cX1_init 4 = .ok (.aload_n 0, 1) := by decide +kernel
theorem dX1_init_5 : decode cX1_init 5 = .ok (.iconst 0, 1) := by decide +kernel
theorem dX1_init_6 : decode cX1_init 6 = .ok (.putfield 9, 3) := by decide +kernel
theorem dX1_init_9 : decode cX1_init 9 = .ok (.aload_n 0, 1) := by decide +kernel
theorem dX1_init_10 : decode cX1_init 10 = .ok (.iconst (-1), 1) := by decide +kernel
theorem dX1_init_11 : decode cX1_init 11 = .ok (.putfield 15, 3) := by decide +kernel
theorem dX1_init_14 : decode cX1_init 14 = .ok (.aload_n 0, 1) := by decide +kernel
theorem dX1_init_15 : decode cX1_init 15 = .ok (.iload_n 1, 1) := by decide +kernel
theorem dX1_init_16 : decode cX1_init 16 = .ok (.putfield 18, 3) := by decide +kernel
theorem dX1_init_19 : decode cX1_init 19 = .ok (.return_, 1) := by decide +kernel
theorem dX1_copyFrom_0 : decode cX1_copyFrom 0 = .ok (.aload_n 0, 1) := by decide +kernel
theorem dX1_copyFrom_1 : decode cX1_copyFrom 1 = .ok (.aload_n 1, 1) := by decide +kernel
theorem dX1_copyFrom_2 : decode cX1_copyFrom 2 = .ok (.getfield 21, 3) := by decide +kernel
theorem dX1_copyFrom_5 : decode cX1_copyFrom 5 = .ok (.putfield 21, 3) := by decide +kernel
theorem dX1_copyFrom_8 : decode cX1_copyFrom 8 = .ok (.aload_n 0, 1) := by decide +kernel
theorem dX1_copyFrom_9 : decode cX1_copyFrom 9 = .ok (.aload_n 1, 1) := by decide +kernel
theorem dX1_copyFrom_10 : decode cX1_copyFrom 10 = .ok (.getfield 24, 3) := by decide +kernel
theorem dX1_copyFrom_13 : decode cX1_copyFrom 13 = .ok (.putfield 24, 3) := by decide +kernel
theorem dX1_copyFrom_16 : decode cX1_copyFrom 16 = .ok (.aload_n 0, 1) := by decide +kernel
theorem dX1_copyFrom_17 : decode cX1_copyFrom 17 = .ok (.aload_n 1, 1) := by decide +kernel
theorem dX1_copyFrom_18 : decode cX1_copyFrom 18 = .ok (.getfield 27, 3) := by decide +kernel
theorem dX1_copyFrom_21 : decode cX1_copyFrom 21 = .ok (.putfield 27, 3) := by decide +kernel
theorem dX1_copyFrom_24 : decode cX1_copyFrom 24 = .ok (.aload_n 0, 1) := by decide +kernel
theorem dX1_copyFrom_25 : decode cX1_copyFrom 25 = .ok (.aload_n 1, 1) := by decide +kernel
theorem dX1_copyFrom_26 : decode cX1_copyFrom 26 = .ok (.getfield 30, 3) := by decide +kernel
theorem dX1_copyFrom_29 : decode cX1_copyFrom 29 = .ok (.putfield 30, 3) := by decide +kernel
theorem dX1_copyFrom_32 : decode cX1_copyFrom 32 = .ok (.aload_n 0, 1) := by decide +kernel
theorem dX1_copyFrom_33 : decode cX1_copyFrom 33 = .ok (.aload_n 1, 1) := by decide +kernel
theorem dX1_copyFrom_34 : decode cX1_copyFrom 34 = .ok (.getfield 33, 3) := by decide +kernel
theorem dX1_copyFrom_37 : decode cX1_copyFrom 37 = .ok (.putfield 33, 3) := by decide +kernel
theorem dX1_copyFrom_40 : decode cX1_copyFrom 40 = .ok (.aload_n 0, 1) := by decide +kernel
theorem dX1_copyFrom_41 : decode cX1_copyFrom 41 = .ok (.aload_n 1, 1) := by decide +kernel
theorem dX1_copyFrom_42 : decode cX1_copyFrom 42 = .ok (.getfield 36, 3) := by decide +kernel
theorem dX1_copyFrom_45 : decode cX1_copyFrom 45 = .ok (.putfield 36, 3) := by decide +kernel
theorem dX1_copyFrom_48 : decode cX1_copyFrom 48 = .ok (.aload_n 0, 1) := by decide +kernel
theorem dX1_copyFrom_49 : decode cX1_copyFrom 49 = .ok (.aload_n 1, 1) := by decide +kernel
theorem dX1_copyFrom_50 : decode cX1_copyFrom 50 = .ok (.getfield 40, 3) := by decide +kernel
theorem dX1_copyFrom_53 : decode cX1_copyFrom 53 = .ok (.putfield 40, 3) := by decide +kernel
theorem dX1_copyFrom_56 : decode cX1_copyFrom 56 = .ok (.aload_n 0, 1) := by decide +kernel
theorem dX1_copyFrom_57 : decode cX1_copyFrom 57 = .ok (.aload_n 1, 1) := by decide +kernel
theorem dX1_copyFrom_58 : decode cX1_copyFrom 58 = .ok (.getfield 9, 3) := by decide +kernel
theorem dX1_copyFrom_61 : decode cX1_copyFrom 61 = .ok (.putfield 9, 3) := by decide +kernel
theorem dX1_copyFrom_64 : decode cX1_copyFrom 64 = .ok (.aload_n 0, 1) := by decide +kernel
theorem dX1_copyFrom_65 : decode cX1_copyFrom 65 = .ok (.aload_n 1, 1) := by decide +kernel
theorem dX1_copyFrom_66 : decode cX1_copyFrom 66 = .ok (.getfield 43, 3) := by decide +kernel
theorem dX1_copyFrom_69 : decode cX1_copyFrom 69 = .ok (.putfield 43, 3) := by decide +kernel
theorem dX1_copyFrom_72 : decode cX1_copyFrom 72 = .ok (.aload_n 0, 1) := by decide +kernel
theorem dX1_copyFrom_73 : decode cX1_copyFrom 73 = .ok (.aload_n 1, 1) := by decide +kernel
theorem dX1_copyFrom_74 : decode cX1_copyFrom 74 = .ok (.getfield 15, 3) := by decide +kernel
theorem dX1_copyFrom_77 : decode cX1_copyFrom 77 = .ok (.putfield 15, 3) := by decide +kernel
theorem dX1_copyFrom_80 : decode cX1_copyFrom 80 = .ok (.return_, 1) := by decide +kernel
theorem dX2_init_0 : decode cX2_init 0 = .ok (.aload_n 0, 1) := by decide +kernel
theorem dX2_init_1 : decode cX2_init 1 = .ok (.invokespecial 3, 3) := by decide +kernel
theorem dX2_init_4 : decode cX2_init 4 = .ok (.aload_n 0, 1) := by decide +kernel
theorem dX2_init_5 : decode cX2_init 5 = .ok (.bipush 8, 2) := by decide +kernel
theorem dX2_init_7 : decode cX2_init 7 = .ok (.newarray .int, 2) := by decide +kernel
theorem dX2_init_9 : decode cX2_init 9 = .ok (.putfield 9, 3) := by decide +kernel
theorem dX2_init_12 : decode cX2_init 12 = .ok (.aload_n 0, 1) := by decide +kernel
theorem dX2_init_13 : decode cX2_init 13 = .ok (.bipush 21, 2) := by decide +kernel
theorem dX2_init_15 : decode cX2_init 15 = .ok (.newarray .int, 2) := by decide +kernel
theorem dX2_init_17 : decode cX2_init 17 = .ok (.putfield 15, 3) := by decide +kernel
theorem dX2_init_20 : decode cX2_init 20 = .ok (.return_, 1) := by decide +kernel
theorem dX2_ringsOf_0 : decode cX2_ringsOf 0 = .ok (.iload_n 1, 1) := by decide +kernel
theorem dX2_ringsOf_1 : decode cX2_ringsOf 1 = .ok (.aload_n 0, 1) := by decide +kernel
theorem dX2_ringsOf_2 : decode cX2_ringsOf 2 = .ok (.getfield 9, 3) := by decide +kernel
theorem dX2_ringsOf_5 : decode cX2_ringsOf 5 = .ok (.arraylength, 1) := by decide +kernel
theorem dX2_ringsOf_6 : decode cX2_ringsOf 6 = .ok (.invokestatic 32, 3) := by decide +kernel
theorem dX2_ringsOf_9 : decode cX2_ringsOf 9 = .ok (.ifCond .eq 12, 3) := by decide +kernel
theorem dX2_ringsOf_12 : decode cX2_ringsOf 12 = .ok (.aload_n 0, 1) := by decide +kernel
theorem dX2_ringsOf_13 : decode cX2_ringsOf 13 = .ok (.getfield 9, 3) := by decide +kernel
theorem dX2_ringsOf_16 : decode cX2_ringsOf 16 = .ok (.iload_n 1, 1) := by decide +kernel
theorem dX2_ringsOf_17 : decode cX2_ringsOf 17 = .ok (.iaload, 1) := by decide +kernel
theorem dX2_ringsOf_18 : decode cX2_ringsOf 18 = .ok (.goto 4, 3) := by decide +kernel
theorem dX2_ringsOf_21 : decode cX2_ringsOf 21 = .ok (.iconst 0, 1) := by decide +kernel
theorem dX2_ringsOf_22 : decode cX2_ringsOf 22 = .ok (.ireturn, 1) := by decide +kernel
theorem dX2_mixedInto_0 : decode cX2_mixedInto 0 = .ok (.lload_n 1, 1) := by decide +kernel
theorem dX2_mixedInto_1 : decode cX2_mixedInto 1 = .ok (.lstore_n 3, 1) := by decide +kernel
theorem dX2_mixedInto_2 : decode cX2_mixedInto 2 = .ok (.iconst 0, 1) := by decide +kernel
theorem dX2_mixedInto_3 : decode cX2_mixedInto 3 = .ok (.istore 5, 2) := by decide +kernel
theorem dX2_mixedInto_5 : decode cX2_mixedInto 5 = .ok (.iload 5, 2) := by decide +kernel
theorem dX2_mixedInto_7 : decode cX2_mixedInto 7 = .ok (.aload_n 0, 1) := by decide +kernel
theorem dX2_mixedInto_8 : decode cX2_mixedInto 8 = .ok (.getfield 18, 3) := by decide +kernel
theorem dX2_mixedInto_11 : decode cX2_mixedInto 11 = .ok (.if_icmp .ge 20, 3) := by decide +kernel
theorem dX2_mixedInto_14 : decode cX2_mixedInto 14 = .ok (.lload_n 3, 1) := by decide +kernel
theorem dX2_mixedInto_15 : decode cX2_mixedInto 15 = .ok (.aload_n 0, 1) := by decide +kernel
theorem dX2_mixedInto_16 : decode cX2_mixedInto 16 = .ok (.iload 5, 2) := by decide +kernel
theorem dX2_mixedInto_18 : decode cX2_mixedInto 18 = .ok (.invokevirtual 22, 3) := by decide +kernel
theorem dX2_mixedInto_21 : decode cX2_mixedInto 21 = .ok (.invokestatic 54, 3) := by decide +kernel
theorem dX2_mixedInto_24 : decode cX2_mixedInto 24 = .ok (.lstore_n 3, 1) := by decide +kernel
theorem dX2_mixedInto_25 : decode cX2_mixedInto 25 = .ok (.iinc 5 1, 3) := by decide +kernel
theorem dX2_mixedInto_28 : decode cX2_mixedInto 28 = .ok (.goto (-23), 3) := by decide +kernel
theorem dX2_mixedInto_31 : decode cX2_mixedInto 31 = .ok (.lload_n 3, 1) := by decide +kernel
theorem dX2_mixedInto_32 : decode cX2_mixedInto 32 = .ok (.lreturn, 1) := by decide +kernel
theorem dX3_init_0 : decode cX3_init 0 = .ok (.aload_n 0, 1) := by decide +kernel
theorem dX3_init_1 : decode cX3_init 1 = .ok (.invokespecial 3, 3) := by decide +kernel
theorem dX3_init_4 : decode cX3_init 4 = .ok (.aload_n 0, 1) := by decide +kernel
theorem dX3_init_5 : decode cX3_init 5 = .ok (.new 9, 3) := by decide +kernel
theorem dX3_init_8 : decode cX3_init 8 = .ok (.dup, 1) := by decide +kernel
theorem dX3_init_9 : decode cX3_init 9 = .ok (.invokespecial 11, 3) := by decide +kernel
theorem dX3_init_12 : decode cX3_init 12 = .ok (.putfield 12, 3) := by decide +kernel
theorem dX3_init_15 : decode cX3_init 15 = .ok (.return_, 1) := by decide +kernel
theorem dX3_take_0 : decode cX3_take 0 = .ok (.aload_n 0, 1) := by decide +kernel
theorem dX3_take_1 : decode cX3_take 1 = .ok (.dup, 1) := by decide +kernel
theorem dX3_take_2 : decode cX3_take 2 = .ok (.getfield 18, 3) := by decide +kernel
theorem dX3_take_5 : decode cX3_take 5 = .ok (.iload_n 2, 1) := by decide +kernel
theorem dX3_take_6 : decode cX3_take 6 = .ok (.iadd, 1) := by decide +kernel
theorem dX3_take_7 : decode cX3_take 7 = .ok (.putfield 18, 3) := by decide +kernel
theorem dX3_take_10 : decode cX3_take 10 = .ok (.aload_n 0, 1) := by decide +kernel
theorem dX3_take_11 : decode cX3_take 11 = .ok (.dup, 1) := by decide +kernel
theorem dX3_take_12 : decode cX3_take 12 = .ok (.getfield 22, 3) := by decide +kernel
theorem dX3_take_15 : decode cX3_take 15 = .ok (.iconst 1, 1) := by decide +kernel
theorem dX3_take_16 : decode cX3_take 16 = .ok (.iadd, 1) := by decide +kernel
theorem dX3_take_17 : decode cX3_take 17 = .ok (.putfield 22, 3) := by decide +kernel
theorem dX3_take_20 : decode cX3_take 20 = .ok (.aload_n 0, 1) := by decide +kernel
theorem dX3_take_21 : decode cX3_take 21 = .ok (.dup, 1) := by decide +kernel
theorem dX3_take_22 : decode cX3_take 22 = .ok (.getfield 25, 3) := by decide +kernel
theorem dX3_take_25 : decode cX3_take 25 = .ok (.aload_n 1, 1) := by decide +kernel
theorem dX3_take_26 : decode cX3_take 26 = .ok (.getfield 28, 3) := by decide +kernel
theorem dX3_take_29 : decode cX3_take 29 = .ok (.iadd, 1) := by decide +kernel
theorem dX3_take_30 : decode cX3_take 30 = .ok (.putfield 25, 3) := by decide +kernel
theorem dX3_take_33 : decode cX3_take 33 = .ok (.aload_n 0, 1) := by decide +kernel
theorem dX3_take_34 : decode cX3_take 34 = .ok (.dup, 1) := by decide +kernel
theorem dX3_take_35 : decode cX3_take 35 = .ok (.getfield 31, 3) := by decide +kernel
theorem dX3_take_38 : decode cX3_take 38 = .ok (.iload_n 3, 1) := by decide +kernel
theorem dX3_take_39 : decode cX3_take 39 = .ok (.iload_n 2, 1) := by decide +kernel
theorem dX3_take_40 : decode cX3_take 40 = .ok (.isub, 1) := by decide +kernel
theorem dX3_take_41 : decode cX3_take 41 = .ok (.iadd, 1) := by decide +kernel
theorem dX3_take_42 : decode cX3_take 42 = .ok (.putfield 31, 3) := by decide +kernel
theorem dX3_take_45 : decode cX3_take 45 = .ok (.return_, 1) := by decide +kernel
theorem dX3_tell_0 : decode cX3_tell 0 = .ok (.iload_n 1, 1) := by decide +kernel
theorem dX3_tell_1 : decode cX3_tell 1 = .ok (.tableswitch 42 0 2 #[27, 32, 37], 27) := by decide +kernel
theorem dX3_tell_28 : decode cX3_tell 28 = .ok (.aload_n 0, 1) := by decide +kernel
theorem dX3_tell_29 : decode cX3_tell 29 = .ok (.getfield 18, 3) := by decide +kernel
theorem dX3_tell_32 : decode cX3_tell 32 = .ok (.ireturn, 1) := by decide +kernel
theorem dX3_tell_33 : decode cX3_tell 33 = .ok (.aload_n 0, 1) := by decide +kernel
theorem dX3_tell_34 : decode cX3_tell 34 = .ok (.getfield 22, 3) := by decide +kernel
theorem dX3_tell_37 : decode cX3_tell 37 = .ok (.ireturn, 1) := by decide +kernel
theorem dX3_tell_38 : decode cX3_tell 38 = .ok (.aload_n 0, 1) := by decide +kernel
