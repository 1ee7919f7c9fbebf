theorem dX3_tell_39 : decode cX3_tell 39 = .ok (.getfield 25, 3) := by decide +kernel
theorem dX3_tell_42 : decode cX3_tell 42 = .ok (.ireturn, 1) := by decide +kernel
theorem dX3_tell_43 : decode cX3_tell 43 = .ok (.aload_n 0, 1) := by decide +kernel
theorem dX3_tell_44 : decode cX3_tell 44 = .ok (.getfield 12, 3) := by decide +kernel
theorem dX3_tell_47 : decode cX3_tell 47 = .ok (.getfield 34, 3) := by decide +kernel
theorem dX3_tell_50 : decode cX3_tell 50 = .ok (.ireturn, 1) := by decide +kernel
theorem dX3_mixedInto_0 : decode cX3_mixedInto 0 = .ok (.lload_n 1, 1) := by decide +kernel
theorem dX3_mixedInto_1 : decode cX3_mixedInto 1 = .ok (.lstore_n 3, 1) := by decide +kernel
theorem dX3_mixedInto_2 : decode cX3_mixedInto 2 = .ok (.iconst 0, 1) := by decide +kernel
theorem dX3_mixedInto_3 : decode cX3_mixedInto 3 = .ok (.istore 5, 2) := by decide +kernel
theorem dX3_mixedInto_5 : decode cX3_mixedInto 5 = .ok (.iload 5, 2) := by decide +kernel
theorem dX3_mixedInto_7 : decode cX3_mixedInto 7 = .ok (.iconst 4, 1) := by decide +kernel
theorem dX3_mixedInto_8 : decode cX3_mixedInto 8 = .ok (.if_icmp .ge 20, 3) := by decide +kernel
theorem dX3_mixedInto_11 : decode cX3_mixedInto 11 = .ok (.lload_n 3, 1) := by decide +kernel
theorem dX3_mixedInto_12 : decode cX3_mixedInto 12 = .ok (.aload_n 0, 1) := by decide +kernel
theorem dX3_mixedInto_13 : decode cX3_mixedInto 13 = .ok (.iload 5, 2) := by decide +kernel
theorem dX3_mixedInto_15 : decode cX3_mixedInto 15 = .ok (.invokevirtual 37, 3) := by decide +kernel
theorem dX3_mixedInto_18 : decode cX3_mixedInto 18 = .ok (.invokestatic 41, 3) := by decide +kernel
theorem dX3_mixedInto_21 : decode cX3_mixedInto 21 = .ok (.lstore_n 3, 1) := by decide +kernel
theorem dX3_mixedInto_22 : decode cX3_mixedInto 22 = .ok (.iinc 5 1, 3) := by decide +kernel
theorem dX3_mixedInto_25 : decode cX3_mixedInto 25 = .ok (.goto (-20), 3) := by decide +kernel
theorem dX3_mixedInto_28 : decode cX3_mixedInto 28 = .ok (.iconst 0, 1) := by decide +kernel
theorem dX3_mixedInto_29 : decode cX3_mixedInto 29 = .ok (.istore 5, 2) := by decide +kernel
theorem dX3_mixedInto_31 : decode cX3_mixedInto 31 = .ok (.iload 5, 2) := by decide +kernel
theorem dX3_mixedInto_33 : decode cX3_mixedInto 33 = .ok (.aload_n 0, 1) := by decide +kernel
theorem dX3_mixedInto_34 : decode cX3_mixedInto 34 = .ok (.getfield 12, 3) := by decide +kernel
theorem dX3_mixedInto_37 : decode cX3_mixedInto 37 = .ok (.getfield 34, 3) := by decide +kernel
theorem dX3_mixedInto_40 : decode cX3_mixedInto 40 = .ok (.if_icmp .ge 23, 3) := by decide +kernel
theorem dX3_mixedInto_43 : decode cX3_mixedInto 43 = .ok (.lload_n 3, 1) := by decide +kernel
theorem dX3_mixedInto_44 : decode cX3_mixedInto 44 = .ok (.aload_n 0, 1) := by decide +kernel
theorem dX3_mixedInto_45 : decode cX3_mixedInto 45 = .ok (.getfield 12, 3) := by decide +kernel
theorem dX3_mixedInto_48 : decode cX3_mixedInto 48 = .ok (.iload 5, 2) := by decide +kernel
theorem dX3_mixedInto_50 : decode cX3_mixedInto 50 = .ok (.invokevirtual 45, 3) := by decide +kernel
theorem dX3_mixedInto_53 : decode cX3_mixedInto 53 = .ok (.invokestatic 41, 3) := by decide +kernel
theorem dX3_mixedInto_56 : decode cX3_mixedInto 56 = .ok (.lstore_n 3, 1) := by decide +kernel
theorem dX3_mixedInto_57 : decode cX3_mixedInto 57 = .ok (.iinc 5 1, 3) := by decide +kernel
theorem dX3_mixedInto_60 : decode cX3_mixedInto 60 = .ok (.goto (-29), 3) := by decide +kernel
theorem dX3_mixedInto_63 : decode cX3_mixedInto 63 = .ok (.lload_n 3, 1) := by decide +kernel
theorem dX3_mixedInto_64 : decode cX3_mixedInto 64 = .ok (.lreturn, 1) := by decide +kernel
theorem dX3_copyFrom_0 : decode cX3_copyFrom 0 = .ok (.aload_n 0, 1) := by decide +kernel
theorem dX3_copyFrom_1 : decode cX3_copyFrom 1 = .ok (.getfield 12, 3) := by decide +kernel
theorem dX3_copyFrom_4 : decode cX3_copyFrom 4 = .ok (.aload_n 1, 1) := by decide +kernel
theorem dX3_copyFrom_5 : decode cX3_copyFrom 5 = .ok (.getfield 12, 3) := by decide +kernel
theorem dX3_copyFrom_8 : decode cX3_copyFrom 8 = .ok (.invokevirtual 48, 3) := by decide +kernel
theorem dX3_copyFrom_11 : decode cX3_copyFrom 11 = .ok (.aload_n 0, 1) := by decide +kernel
theorem dX3_copyFrom_12 : decode cX3_copyFrom 12 = .ok (.aload_n 1, 1) := by decide +kernel
theorem dX3_copyFrom_13 : decode cX3_copyFrom 13 = .ok (.getfield 18, 3) := by decide +kernel
theorem dX3_copyFrom_16 : decode cX3_copyFrom 16 = .ok (.putfield 18, 3) := by decide +kernel
theorem dX3_copyFrom_19 : decode cX3_copyFrom 19 = .ok (.aload_n 0, 1) := by decide +kernel
theorem dX3_copyFrom_20 : decode cX3_copyFrom 20 = .ok (.aload_n 1, 1) := by decide +kernel
theorem dX3_copyFrom_21 : decode cX3_copyFrom 21 = .ok (.getfield 22, 3) := by decide +kernel
theorem dX3_copyFrom_24 : decode cX3_copyFrom 24 = .ok (.putfield 22, 3) := by decide +kernel
theorem dX3_copyFrom_27 : decode cX3_copyFrom 27 = .ok (.aload_n 0, 1) := by decide +kernel
theorem dX3_copyFrom_28 : decode cX3_copyFrom 28 = .ok (.aload_n 1, 1) := by decide +kernel
theorem dX3_copyFrom_29 : decode cX3_copyFrom 29 = .ok (.getfield 25, 3) := by decide +kernel
theorem dX3_copyFrom_32 : decode cX3_copyFrom 32 = .ok (.putfield 25, 3) := by decide +kernel
theorem dX3_copyFrom_35 : decode cX3_copyFrom 35 = .ok (.aload_n 0, 1) := by decide +kernel
theorem dX3_copyFrom_36 : decode cX3_copyFrom 36 = .ok (.aload_n 1, 1) := by decide +kernel
theorem dX3_copyFrom_37 : decode cX3_copyFrom 37 = .ok (.getfield 31, 3) := by decide +kernel
theorem dX3_copyFrom_40 : decode cX3_copyFrom 40 = .ok (.putfield 31, 3) := by decide +kernel
theorem dX3_copyFrom_43 : decode cX3_copyFrom 43 = .ok (.return_, 1) := by decide +kernel
theorem dX5_init_0 : decode cX5_init 0 = .ok (.aload_n 0, 1) := by decide +kernel
theorem dX5_init_1 : decode cX5_init 1 = .ok (.invokespecial 3, 3) := by decide +kernel
theorem dX5_init_4 : decode cX5_init 4 = .ok (.aload_n 0, 1) := by decide +kernel
theorem dX5_init_5 : decode cX5_init 5 = .ok (.bipush 16, 2) := by decide +kernel
theorem dX5_init_7 : decode cX5_init 7 = .ok (.newarray .int, 2) := by decide +kernel
theorem dX5_init_9 : decode cX5_init 9 = .ok (.putfield 9, 3) := by decide +kernel
theorem dX5_init_12 : decode cX5_init 12 = .ok (.return_, 1) := by decide +kernel
theorem dX5_at_0 : decode cX5_at 0 = .ok (.iload_n 1, 1) := by decide +kernel
theorem dX5_at_1 : decode cX5_at 1 = .ok (.aload_n 0, 1) := by decide +kernel
theorem dX5_at_2 : decode cX5_at 2 = .ok (.getfield 15, 3) := by decide +kernel
theorem dX5_at_5 : decode cX5_at 5 = .ok (.if_icmp .ge 24, 3) := by decide +kernel
theorem dX5_at_8 : decode cX5_at 8 = .ok (.iload_n 1, 1) := by decide +kernel
theorem dX5_at_9 : decode cX5_at 9 = .ok (.aload_n 0, 1) := by decide +kernel
theorem dX5_at_10 : decode cX5_at 10 = .ok (.getfield 9, 3) := by decide +kernel
theorem dX5_at_13 : decode cX5_at 13 = .ok (.arraylength, 1) := by decide +kernel
theorem dX5_at_14 : decode cX5_at 14 = .ok (.invokestatic 19, 3) := by decide +kernel
theorem dX5_at_17 : decode cX5_at 17 = .ok (.ifCond .eq 12, 3) := by decide +kernel
theorem dX5_at_20 : decode cX5_at 20 = .ok (.aload_n 0, 1) := by decide +kernel
theorem dX5_at_21 : decode cX5_at 21 = .ok (.getfield 9, 3) := by decide +kernel
theorem dX5_at_24 : decode cX5_at 24 = .ok (.iload_n 1, 1) := by decide +kernel
theorem dX5_at_25 : decode cX5_at 25 = .ok (.iaload, 1) := by decide +kernel
theorem dX5_at_26 : decode cX5_at 26 = .ok (.goto 4, 3) := by decide +kernel
theorem dX5_at_29 : decode cX5_at 29 = .ok (.iconst (-1), 1) := by decide +kernel
theorem dX5_at_30 : decode cX5_at 30 = .ok (.ireturn, 1) := by decide +kernel
theorem dX5_last_0 : decode cX5_last 0 = .ok (.aload_n 0, 1) := by decide +kernel
theorem dX5_last_1 : decode cX5_last 1 = .ok (.aload_n 0, 1) := by decide +kernel
theorem dX5_last_2 : decode cX5_last 2 = .ok (.getfield 15, 3) := by decide +kernel
theorem dX5_last_5 : decode cX5_last 5 = .ok (.iconst 1, 1) := by decide +kernel
theorem dX5_last_6 : decode cX5_last 6 = .ok (.isub, 1) := by decide +kernel
theorem dX5_last_7 : decode cX5_last 7 = .ok (.invokevirtual 23, 3) := by decide +kernel
theorem dX5_last_10 : decode cX5_last 10 = .ok (.ireturn, 1) := by decide +kernel
theorem dX5_addLast_0 : decode cX5_addLast 0 = .ok (.aload_n 0, 1) := by decide +kernel
theorem dX5_addLast_1 : decode cX5_addLast 1 = .ok (.getfield 15, 3) := by decide +kernel
theorem dX5_addLast_4 : decode cX5_addLast 4 = .ok (.aload_n 0, 1) := by decide +kernel
theorem dX5_addLast_5 : decode cX5_addLast 5 = .ok (.getfield 9, 3) := by decide +kernel
theorem dX5_addLast_8 : decode cX5_addLast 8 = .ok (.arraylength, 1) := by decide +kernel
theorem dX5_addLast_9 : decode cX5_addLast 9 = .ok (.invokestatic 19, 3) := by decide +kernel
theorem dX5_addLast_12 : decode cX5_addLast 12 = .ok (.ifCond .eq 23, 3) := by decide +kernel
theorem dX5_addLast_15 : decode cX5_addLast 15 = .ok (.aload_n 0, 1) := by decide +kernel
theorem dX5_addLast_16 : decode cX5_addLast 16 = .ok (.getfield 9, 3) := by decide +kernel
theorem dX5_addLast_19 : decode cX5_addLast 19 = .ok (.aload_n 0, 1) := by decide +kernel
theorem dX5_addLast_20 : decode cX5_addLast 20 = .ok (.getfield 15, 3) := by decide +kernel
theorem dX5_addLast_23 : decode cX5_addLast 23 = .ok (.iload_n 1, 1) := by decide +kernel
theorem dX5_addLast_24 : decode cX5_addLast 24 = .ok (.iastore, 1) := by decide +kernel
theorem dX5_addLast_25 : decode cX5_addLast 25 = .ok (.aload_n 0, 1) := by decide +kernel
theorem dX5_addLast_26 : decode cX5_addLast 26 = .ok (.dup, 1) := by decide +kernel
theorem dX5_addLast_27 : decode cX5_addLast 27 = .ok (.getfield 15, 3) := by decide +kernel
theorem dX5_addLast_30 : decode cX5_addLast 30 = .ok (.iconst 1, 1) := by decide +kernel
theorem dX5_addLast_31 : decode cX5_addLast 31 = .ok (.iadd, 1) := by decide +kernel
theorem dX5_addLast_32 : decode cX5_addLast 32 = .ok (.putfield 15, 3) := by decide +kernel
theorem dX5_addLast_35 : decode cX5_addLast 35 = .ok (.return_, 1) := by decide +kernel
theorem dX5_addFirst_0 : decode cX5_addFirst 0 = .ok (.aload_n 0, 1) := by decide +kernel
theorem dX5_addFirst_1 : decode cX5_addFirst 1 = .ok (.getfield 15, 3) := by decide +kernel
theorem dX5_addFirst_4 : decode cX5_addFirst 4 = .ok (.aload_n 0, 1) := by decide +kernel
theorem dX5_addFirst_5 : decode cX5_addFirst 5 = .ok (.getfield 9, 3) := by decide +kernel
theorem dX5_addFirst_8 : decode cX5_addFirst 8 = .ok (.arraylength, 1) := by decide +kernel
theorem dX5_addFirst_9 : decode cX5_addFirst 9 = .ok (.invokestatic 19, 3) := by decide +kernel
theorem dX5_addFirst_12 : decode cX5_addFirst 12 = .ok (.ifCond .eq 49, 3) := by decide +kernel
theorem dX5_addFirst_15 : decode cX5_addFirst 15 = .ok (.aload_n 0, 1) := by decide +kernel
theorem dX5_addFirst_16 : decode cX5_addFirst 16 = .ok (.getfield 15, 3) := by decide +kernel
theorem dX5_addFirst_19 : decode cX5_addFirst 19 = .ok (.istore_n 2, 1) := by decide +kernel
theorem dX5_addFirst_20 : decode cX5_addFirst 20 = .ok (.iload_n 2, 1) := by decide +kernel
theorem dX5_addFirst_21 : decode cX5_addFirst 21 = .ok (.ifCond .le 23, 3) := by decide +kernel
theorem dX5_addFirst_24 : decode cX5_addFirst 24 = .ok (.aload_n 0, 1) := by decide +kernel
theorem dX5_addFirst_25 : decode cX5_addFirst 25 = .ok (.getfield 9, 3) := by decide +kernel
theorem dX5_addFirst_28 : decode cX5_addFirst 28 = .ok (.iload_n 2, 1) := by decide +kernel
theorem dX5_addFirst_29 : decode cX5_addFirst 29 = .ok (.aload_n 0, 1) := by decide +kernel
theorem dX5_addFirst_30 : decode cX5_addFirst 30 = .ok (.getfield 9, 3) := by decide +kernel
theorem dX5_addFirst_33 : decode cX5_addFirst 33 = .ok (.iload_n 2, 1) := by decide +kernel
theorem dX5_addFirst_34 : decode cX5_addFirst 34 = .ok (.iconst 1, 1) := by decide +kernel
theorem dX5_addFirst_35 : decode cX5_addFirst 35 = .ok (.isub, 1) := by decide +kernel
theorem dX5_addFirst_36 : decode cX5_addFirst 36 = .ok (.iaload, 1) := by decide +kernel
theorem dX5_addFirst_37 : decode cX5_addFirst 37 = .ok (.iastore, 1) := by decide +kernel
theorem dX5_addFirst_38 : decode cX5_addFirst 38 = .ok (.iinc 2 (-1), 3) := by decide +kernel
theorem dX5_addFirst_41 : decode cX5_addFirst 41 = .ok (.goto (-21), 3) := by decide +kernel
theorem dX5_addFirst_44 : decode cX5_addFirst 44 = .ok (.aload_n 0, 1) := by decide +kernel
theorem dX5_addFirst_45 : decode cX5_addFirst 45 = .ok (.getfield 9, 3) := by decide +kernel
theorem dX5_addFirst_48 : decode cX5_addFirst 48 = .ok (.iconst 0, 1) := by decide +kernel
theorem dX5_addFirst_49 : decode cX5_addFirst 49 = .ok (.iload_n 1, 1) := by decide +kernel
theorem dX5_addFirst_50 : decode cX5_addFirst 50 = .ok (.iastore, 1) := by decide +kernel
theorem dX5_addFirst_51 : decode cX5_addFirst 51 = .ok (.aload_n 0, 1) := by decide +kernel
theorem dX5_addFirst_52 : decode cX5_addFirst 52 = .ok (.dup, 1) := by decide +kernel
theorem dX5_addFirst_53 : decode cX5_addFirst 53 = .ok (.getfield 15, 3) := by decide +kernel
theorem dX5_addFirst_56 : decode cX5_addFirst 56 = .ok (.iconst 1, 1) := by decide +kernel
theorem dX5_addFirst_57 : decode cX5_addFirst 57 = .ok (.iadd, 1) := by decide +kernel
theorem dX5_addFirst_58 : decode cX5_addFirst 58 = .ok (.putfield 15, 3) := by decide +kernel
theorem dX5_addFirst_61 : decode cX5_addFirst 61 = .ok (.return_, 1) := by decide +kernel
theorem dX5_removeFirst_0 : decode cX5_removeFirst 0 = .ok (.aload_n 0, 1) := by decide +kernel
theorem dX5_removeFirst_1 : decode cX5_removeFirst 1 = .ok (.getfield 15, 3) := by decide +kernel
theorem dX5_removeFirst_4 : decode cX5_removeFirst 4 = .ok (.ifCond .le 54, 3) := by decide +kernel
theorem dX5_removeFirst_7 : decode cX5_removeFirst 7 = .ok (.aload_n 0, 1) := by decide +kernel
theorem dX5_removeFirst_8 : decode cX5_removeFirst 8 = .ok (.dup, 1) := by decide +kernel
theorem dX5_removeFirst_9 : decode cX5_removeFirst 9 = .ok (.getfield 15, 3) := by decide +kernel
theorem dX5_removeFirst_12 : decode cX5_removeFirst 12 = .ok (.iconst 1, 1) := by decide +kernel
theorem dX5_removeFirst_13 : decode cX5_removeFirst 13 = .ok (.isub, 1) := by decide +kernel
theorem dX5_removeFirst_14 : decode cX5_removeFirst 14 = .ok (.putfield 15, 3) := by decide +kernel
theorem dX5_removeFirst_17 : decode cX5_removeFirst 17 = .ok (.iconst 0, 1) := by decide +kernel
theorem dX5_removeFirst_18 : decode cX5_removeFirst 18 = .ok (.istore_n 1, 1) := by decide +kernel
theorem dX5_removeFirst_19 : decode cX5_removeFirst 19 = .ok (.iload_n 1, 1) := by decide +kernel
theorem dX5_removeFirst_20 : decode cX5_removeFirst 20 = .ok (.aload_n 0, 1) := by decide +kernel
theorem dX5_removeFirst_21 : decode cX5_removeFirst 21 = .ok (.getfield 15, 3) := by decide +kernel
theorem dX5_removeFirst_24 : decode cX5_removeFirst 24 = .ok (.if_icmp .ge 34, 3) := by decide +kernel
theorem dX5_removeFirst_27 : decode cX5_removeFirst 27 = .ok (.iload_n 1, 1) := by decide +kernel
theorem dX5_removeFirst_28 : decode cX5_removeFirst 28 = .ok (.iconst 1, 1) := by decide +kernel
theorem dX5_removeFirst_29 : decode cX5_removeFirst 29 = .ok (.iadd, 1) := by decide +kernel
theorem dX5_removeFirst_30 : decode cX5_removeFirst 30 = .ok (.aload_n 0, 1) := by decide +kernel
theorem dX5_removeFirst_31 : decode cX5_removeFirst 31 = .ok (.getfield 9, 3) := by decide +kernel
theorem dX5_removeFirst_34 : decode cX5_removeFirst 34 = .ok (.arraylength, 1) := by decide +kernel
theorem dX5_removeFirst_35 : decode cX5_removeFirst 35 = .ok (.if_icmp .ge 23, 3) := by decide +kernel
theorem dX5_removeFirst_38 : decode cX5_removeFirst 38 = .ok (.aload_n 0, 1) := by decide +kernel
theorem dX5_removeFirst_39 : decode cX5_removeFirst 39 = .ok (.getfield 9, 3) := by decide +kernel
theorem dX5_removeFirst_42 : decode cX5_removeFirst 42 = .ok (.iload_n 1, 1) := by decide +kernel
theorem dX5_removeFirst_43 : decode cX5_removeFirst 43 = .ok (.aload_n 0, 1) := by decide +kernel
theorem dX5_removeFirst_44 : decode cX5_removeFirst 44 = .ok (.getfield 9, 3) := by decide +kernel
theorem dX5_removeFirst_47 : decode cX5_removeFirst 47 = .ok (.iload_n 1, 1) := by decide +kernel
theorem dX5_removeFirst_48 : decode cX5_removeFirst 48 = .ok (.iconst 1, 1) := by decide +kernel
theorem dX5_removeFirst_49 : decode cX5_removeFirst 49 = .ok (.iadd, 1) := by decide +kernel
theorem dX5_removeFirst_50 : decode cX5_removeFirst 50 = .ok (.iaload, 1) := by decide +kernel
theorem dX5_removeFirst_51 : decode cX5_removeFirst 51 = .ok (.iastore, 1) := by decide +kernel
theorem dX5_removeFirst_52 : decode cX5_removeFirst 52 = .ok (.iinc 1 1, 3) := by decide +kernel
theorem dX5_removeFirst_55 : decode cX5_removeFirst 55 = .ok (.goto (-36), 3) := by decide +kernel
theorem dX5_removeFirst_58 : decode cX5_removeFirst 58 = .ok (.return_, 1) := by decide +kernel
theorem dX5_removeLast_0 : decode cX5_removeLast 0 = .ok (.aload_n 0, 1) := by decide +kernel
theorem dX5_removeLast_1 : decode cX5_removeLast 1 = .ok (.getfield 15, 3) := by decide +kernel
theorem dX5_removeLast_4 : decode cX5_removeLast 4 = .ok (.ifCond .le 13, 3) := by decide +kernel
theorem dX5_removeLast_7 : decode cX5_removeLast 7 = .ok (.aload_n 0, 1) := by decide +kernel
theorem dX5_removeLast_8 : decode cX5_removeLast 8 = .ok (.dup, 1) := by decide +kernel
theorem dX5_removeLast_9 : decode cX5_removeLast 9 = .ok (.getfield 15, 3) := by decide +kernel
theorem dX5_removeLast_12 : decode cX5_removeLast 12 = .ok (.iconst 1, 1) := by decide +kernel
theorem dX5_removeLast_13 : decode cX5_removeLast 13 = .ok (.isub, 1) := by decide +kernel
theorem dX5_removeLast_14 : decode cX5_removeLast 14 = .ok (.putfield 15, 3) := by decide +kernel
theorem dX5_removeLast_17 : decode cX5_removeLast 17 = .ok (.return_, 1) := by decide +kernel
theorem dX5_copyFrom_0 : decode cX5_copyFrom 0 = .ok (.aload_n 0, 1) := by decide +kernel
theorem dX5_copyFrom_1 : decode cX5_copyFrom 1 = .ok (.aload_n 1, 1) := by decide +kernel
theorem dX5_copyFrom_2 : decode cX5_copyFrom 2 = .ok (.getfield 15, 3) := by decide +kernel
theorem dX5_copyFrom_5 : decode cX5_copyFrom 5 = .ok (.putfield 15, 3) := by decide +kernel
theorem dX5_copyFrom_8 : decode cX5_copyFrom 8 = .ok (.iconst 0, 1) := by decide +kernel
theorem dX5_copyFrom_9 : decode cX5_copyFrom 9 = .ok (.istore_n 2, 1) := by decide +kernel
theorem dX5_copyFrom_10 : decode cX5_copyFrom 10 = .ok (.iload_n 2, 1) := by decide +kernel
theorem dX5_copyFrom_11 : decode cX5_copyFrom 11 = .ok (.aload_n 0, 1) := by decide +kernel
theorem dX5_copyFrom_12 : decode cX5_copyFrom 12 = .ok (.getfield 15, 3) := by decide +kernel
theorem dX5_copyFrom_15 : decode cX5_copyFrom 15 = .ok (.if_icmp .ge 29, 3) := by decide +kernel
theorem dX5_copyFrom_18 : decode cX5_copyFrom 18 = .ok (.iload_n 2, 1) := by decide +kernel
theorem dX5_copyFrom_19 : decode cX5_copyFrom 19 = .ok (.aload_n 0, 1) := by decide +kernel
theorem dX5_copyFrom_20 : decode cX5_copyFrom 20 = .ok (.getfield 9, 3) := by decide +kernel
theorem dX5_copyFrom_23 : decode cX5_copyFrom 23 = .ok (.arraylength, 1) := by decide +kernel
theorem dX5_copyFrom_24 : decode cX5_copyFrom 24 = .ok (.if_icmp .ge 20, 3) := by decide +kernel
theorem dX5_copyFrom_27 : decode cX5_copyFrom 27 = .ok (.aload_n 0, 1) := by decide +kernel
theorem dX5_copyFrom_28 : decode cX5_copyFrom 28 = .ok (.getfield 9, 3) := by decide +kernel
theorem dX5_copyFrom_31 : decode cX5_copyFrom 31 = .ok (.iload_n 2, 1) := by decide +kernel
theorem dX5_copyFrom_32 : decode cX5_copyFrom 32 = .ok (.aload_n 1, 1) := by decide +kernel
theorem dX5_copyFrom_33 : decode cX5_copyFrom 33 = .ok (.iload_n 2, 1) := by decide +kernel
theorem dX5_copyFrom_34 : decode cX5_copyFrom 34 = .ok (.invokevirtual 23, 3) := by decide +kernel
theorem dX5_copyFrom_37 : decode cX5_copyFrom 37 = .ok (.iastore, 1) := by decide +kernel
theorem dX5_copyFrom_38 : decode cX5_copyFrom 38 = .ok (.iinc 2 1, 3) := by decide +kernel
theorem dX5_copyFrom_41 : decode cX5_copyFrom 41 = .ok (.goto (-31), 3) := by decide +kernel
theorem dX5_copyFrom_44 : decode cX5_copyFrom 44 = .ok (.return_, 1) := by decide +kernel
theorem dX6_init_0 : decode cX6_init 0 = .ok (.aload_n 0, 1) := by decide +kernel
theorem dX6_init_1 : decode cX6_init 1 = .ok (.invokespecial 1, 3) := by decide +kernel
theorem dX6_init_4 : decode cX6_init 4 = .ok (.aload_n 0, 1) := by decide +kernel
theorem dX6_init_5 : decode cX6_init 5 = .ok (.new 7, 3) := by decide +kernel
theorem dX6_init_8 : decode cX6_init 8 = .ok (.dup, 1) := by decide +kernel
theorem dX6_init_9 : decode cX6_init 9 = .ok (.invokespecial 9, 3) := by decide +kernel
theorem dX6_init_12 : decode cX6_init 12 = .ok (.putfield 10, 3) := by decide +kernel
theorem dX6_init_15 : decode cX6_init 15 = .ok (.aload_n 0, 1) := by decide +kernel
theorem dX6_init_16 : decode cX6_init 16 = .ok (.bipush 20, 2) := by decide +kernel
theorem dX6_init_18 : decode cX6_init 18 = .ok (.newarray .int, 2) := by decide +kernel
theorem dX6_init_20 : decode cX6_init 20 = .ok (.putfield 16, 3) := by decide +kernel
theorem dX6_init_23 : decode cX6_init 23 = .ok (.aload_n 0, 1) := by decide +kernel
theorem dX6_init_24 : decode cX6_init 24 = .ok (.new 20, 3) := by decide +kernel
theorem dX6_init_27 : decode cX6_init 27 = .ok (.dup, 1) := by decide +kernel
theorem dX6_init_28 : decode cX6_init 28 = .ok (.invokespecial 22, 3) := by decide +kernel
theorem dX6_init_31 : decode cX6_init 31 = .ok (.putfield 23, 3) := by decide +kernel
theorem dX6_init_34 : decode cX6_init 34 = .ok (.aload_n 0, 1) := by decide +kernel
theorem dX6_init_35 : decode cX6_init 35 = .ok (.new 20, 3) := by decide +kernel
theorem dX6_init_38 : decode cX6_init 38 = .ok (.dup, 1) := by decide +kernel
theorem dX6_init_39 : decode cX6_init 39 = .ok (.invokespecial 22, 3) := by decide +kernel
theorem dX6_init_42 : decode cX6_init 42 = .ok (.putfield 27, 3) := by decide +kernel
theorem dX6_init_45 : decode cX6_init 45 = .ok (.aload_n 0, 1) := by decide +kernel
theorem dX6_init_46 : decode cX6_init 46 = .ok (.new 20, 3) := by decide +kernel
theorem dX6_init_49 : decode cX6_init 49 = .ok (.dup, 1) := by decide +kernel
theorem dX6_init_50 : decode cX6_init 50 = .ok (.invokespecial 22, 3) := by decide +kernel
theorem dX6_init_53 : decode cX6_init 53 = .ok (.putfield 30, 3) := by decide +kernel
theorem dX6_init_56 : decode cX6_init 56 = .ok (.return_, 1) := by decide +kernel
theorem dX6_rebuild_0 : decode cX6_rebuild 0 = .ok (.iload_n 1, 1) := by decide +kernel
theorem dX6_rebuild_1 : decode cX6_rebuild 1 = .ok (.iconst 4, 1) := by decide +kernel
theorem dX6_rebuild_2 : decode cX6_rebuild 2 = .ok (.bipush 30, 2) := by decide +kernel
theorem dX6_rebuild_4 : decode cX6_rebuild 4 = .ok (.invokestatic 39, 3) := by decide +kernel
theorem dX6_rebuild_7 : decode cX6_rebuild 7 = .ok (.ifCond .eq 15, 3) := by decide +kernel
theorem dX6_rebuild_10 : decode cX6_rebuild 10 = .ok (.iload_n 2, 1) := by decide +kernel
theorem dX6_rebuild_11 : decode cX6_rebuild 11 = .ok (.bipush 10, 2) := by decide +kernel
theorem dX6_rebuild_13 : decode cX6_rebuild 13 = .ok (.sipush 500, 3) := by decide +kernel
theorem dX6_rebuild_16 : decode cX6_rebuild 16 = .ok (.invokestatic 39, 3) := by decide +kernel
theorem dX6_rebuild_19 : decode cX6_rebuild 19 = .ok (.ifCond .ne 13, 3) := by decide +kernel
theorem dX6_rebuild_22 : decode cX6_rebuild 22 = .ok (.new 43, 3) := by decide +kernel
theorem dX6_rebuild_25 : decode cX6_rebuild 25 = .ok (.dup, 1) := by decide +kernel
theorem dX6_rebuild_26 : decode cX6_rebuild 26 = .ok (.ldc 108, 2) := by decide +kernel
theorem dX6_rebuild_28 : decode cX6_rebuild 28 = .ok (.invokespecial 47, 3) := by decide +kernel
theorem dX6_rebuild_31 : decode cX6_rebuild 31 = .ok (.athrow, 1) := by decide +kernel
theorem dX6_rebuild_32 : decode cX6_rebuild 32 = .ok (.aload_n 0, 1) := by decide +kernel
theorem dX6_rebuild_33 : decode cX6_rebuild 33 = .ok (.getfield 23, 3) := by decide +kernel
theorem dX6_rebuild_36 : decode cX6_rebuild 36 = .ok (.getfield 110, 3) := by decide +kernel
theorem dX6_rebuild_39 : decode cX6_rebuild 39 = .ok (.getfield 114, 3) := by decide +kernel
theorem dX6_rebuild_42 : decode cX6_rebuild 42 = .ok (.ifCond .le 13, 3) := by decide +kernel
theorem dX6_rebuild_45 : decode cX6_rebuild 45 = .ok (.new 58, 3) := by decide +kernel
theorem dX6_rebuild_48 : decode cX6_rebuild 48 = .ok (.dup, 1) := by decide +kernel
theorem dX6_rebuild_49 : decode cX6_rebuild 49 = .ok (.ldc 117, 2) := by decide +kernel
theorem dX6_rebuild_51 : decode cX6_rebuild 51 = .ok (.invokespecial 62, 3) := by decide +kernel
theorem dX6_rebuild_54 : decode cX6_rebuild 54 = .ok (.athrow, 1) := by decide +kernel
theorem dX6_rebuild_55 : decode cX6_rebuild 55 = .ok (.aload_n 0, 1) := by decide +kernel
theorem dX6_rebuild_56 : decode cX6_rebuild 56 = .ok (.getfield 23, 3) := by decide +kernel
theorem dX6_rebuild_59 : decode cX6_rebuild 59 = .ok (.getfield 119, 3) := by decide +kernel
theorem dX6_rebuild_62 : decode cX6_rebuild 62 = .ok (.istore_n 3, 1) := by decide +kernel
theorem dX6_rebuild_63 : decode cX6_rebuild 63 = .ok (.aload_n 0, 1) := by decide +kernel
theorem dX6_rebuild_64 : decode cX6_rebuild 64 = .ok (.getfield 23, 3) := by decide +kernel
theorem dX6_rebuild_67 : decode cX6_rebuild 67 = .ok (.iload_n 1, 1) := by decide +kernel
theorem dX6_rebuild_68 : decode cX6_rebuild 68 = .ok (.putfield 122, 3) := by decide +kernel
theorem dX6_rebuild_71 : decode cX6_rebuild 71 = .ok (.aload_n 0, 1) := by decide +kernel
theorem dX6_rebuild_72 : decode cX6_rebuild 72 = .ok (.getfield 23, 3) := by decide +kernel
theorem dX6_rebuild_75 : decode cX6_rebuild 75 = .ok (.iload_n 2, 1) := by decide +kernel
theorem dX6_rebuild_76 : decode cX6_rebuild 76 = .ok (.putfield 119, 3) := by decide +kernel
theorem dX6_rebuild_79 : decode cX6_rebuild 79 = .ok (.iload_n 3, 1) := by decide +kernel
theorem dX6_rebuild_80 : decode cX6_rebuild 80 = .ok (.ireturn, 1) := by decide +kernel
theorem dX6_setToll_0 : decode cX6_setToll 0 = .ok (.iload_n 1, 1) := by decide +kernel
theorem dX6_setToll_1 : decode cX6_setToll 1 = .ok (.iconst 0, 1) := by decide +kernel
theorem dX6_setToll_2 : decode cX6_setToll 2 = .ok (.bipush 9, 2) := by decide +kernel
theorem dX6_setToll_4 : decode cX6_setToll 4 = .ok (.invokestatic 39, 3) := by decide +kernel
theorem dX6_setToll_7 : decode cX6_setToll 7 = .ok (.ifCond .eq 13, 3) := by decide +kernel
theorem dX6_setToll_10 : decode cX6_setToll 10 = .ok (.iload_n 2, 1) := by decide +kernel
theorem dX6_setToll_11 : decode cX6_setToll 11 = .ok (.iconst 0, 1) := by decide +kernel
theorem dX6_setToll_12 : decode cX6_setToll 12 = .ok (.bipush 9, 2) := by decide +kernel
theorem dX6_setToll_14 : decode cX6_setToll 14 = .ok (.invokestatic 39, 3) := by decide +kernel
theorem dX6_setToll_17 : decode cX6_setToll 17 = .ok (.ifCond .ne 13, 3) := by decide +kernel
theorem dX6_setToll_20 : decode cX6_setToll 20 = .ok (.new 43, 3) := by decide +kernel
theorem dX6_setToll_23 : decode cX6_setToll 23 = .ok (.dup, 1) := by decide +kernel
theorem dX6_setToll_24 : decode cX6_setToll 24 = .ok (.ldc 125, 2) := by decide +kernel
theorem dX6_setToll_26 : decode cX6_setToll 26 = .ok (.invokespecial 47, 3) := by decide +kernel
theorem dX6_setToll_29 : decode cX6_setToll 29 = .ok (.athrow, 1) := by decide +kernel
theorem dX6_setToll_30 : decode cX6_setToll 30 = .ok (.bipush 10, 2) := by decide +kernel
theorem dX6_setToll_32 : decode cX6_setToll 32 = .ok (.aload_n 0, 1) := by decide +kernel
theorem dX6_setToll_33 : decode cX6_setToll 33 = .ok (.getfield 23, 3) := by decide +kernel
theorem dX6_setToll_36 : decode cX6_setToll 36 = .ok (.getfield 127, 3) := by decide +kernel
theorem dX6_setToll_39 : decode cX6_setToll 39 = .ok (.imul, 1) := by decide +kernel
theorem dX6_setToll_40 : decode cX6_setToll 40 = .ok (.aload_n 0, 1) := by decide +kernel
theorem dX6_setToll_41 : decode cX6_setToll 41 = .ok (.getfield 23, 3) := by decide +kernel
theorem dX6_setToll_44 : decode cX6_setToll 44 = .ok (.getfield 130, 3) := by decide +kernel
theorem dX6_setToll_47 : decode cX6_setToll 47 = .ok (.iadd, 1) := by decide +kernel
theorem dX6_setToll_48 : decode cX6_setToll 48 = .ok (.istore_n 3, 1) := by decide +kernel
theorem dX6_setToll_49 : decode cX6_setToll 49 = .ok (.aload_n 0, 1) := by decide +kernel
theorem dX6_setToll_50 : decode cX6_setToll 50 = .ok (.getfield 23, 3) := by decide +kernel
theorem dX6_setToll_53 : decode cX6_setToll 53 = .ok (.iload_n 1, 1) := by decide +kernel
theorem dX6_setToll_54 : decode cX6_setToll 54 = .ok (.putfield 127, 3) := by decide +kernel
theorem dX6_setToll_57 : decode cX6_setToll 57 = .ok (.aload_n 0, 1) := by decide +kernel
theorem dX6_setToll_58 : decode cX6_setToll 58 = .ok (.getfield 23, 3) := by decide +kernel
theorem dX6_setToll_61 : decode cX6_setToll 61 = .ok (.iload_n 2, 1) := by decide +kernel
theorem dX6_setToll_62 : decode cX6_setToll 62 = .ok (.putfield 130, 3) := by decide +kernel
theorem dX6_setToll_65 : decode cX6_setToll 65 = .ok (.iload_n 3, 1) := by decide +kernel
theorem dX6_setToll_66 : decode cX6_setToll 66 = .ok (.ireturn, 1) := by decide +kernel
theorem dX6_change_0 : decode cX6_change 0 = .ok (.aload_n 0, 1) := by decide +kernel
theorem dX6_change_1 : decode cX6_change 1 = .ok (.getfield 23, 3) := by decide +kernel
theorem dX6_change_4 : decode cX6_change 4 = .ok (.invokevirtual 133, 3) := by decide +kernel
theorem dX6_change_7 : decode cX6_change 7 = .ok (.aload_n 0, 1) := by decide +kernel
theorem dX6_change_8 : decode cX6_change 8 = .ok (.getfield 23, 3) := by decide +kernel
theorem dX6_change_11 : decode cX6_change 11 = .ok (.getfield 136, 3) := by decide +kernel
theorem dX6_change_14 : decode cX6_change 14 = .ok (.ireturn, 1) := by decide +kernel
theorem dX6_come_0 : decode cX6_come 0 = .ok (.iload_n 1, 1) := by decide +kernel
theorem dX6_come_1 : decode cX6_come 1 = .ok (.iconst 2, 1) := by decide +kernel
theorem dX6_come_2 : decode cX6_come 2 = .ok (.invokestatic 68, 3) := by decide +kernel
theorem dX6_come_5 : decode cX6_come 5 = .ok (.ifCond .eq 44, 3) := by decide +kernel
theorem dX6_come_8 : decode cX6_come 8 = .ok (.iload_n 2, 1) := by decide +kernel
theorem dX6_come_9 : decode cX6_come 9 = .ok (.iconst 1, 1) := by decide +kernel
theorem dX6_come_10 : decode cX6_come 10 = .ok (.iconst 4, 1) := by decide +kernel
theorem dX6_come_11 : decode cX6_come 11 = .ok (.invokestatic 39, 3) := by decide +kernel
theorem dX6_come_14 : decode cX6_come 14 = .ok (.ifCond .eq 35, 3) := by decide +kernel
theorem dX6_come_17 : decode cX6_come 17 = .ok (.iload_n 3, 1) := by decide +kernel
theorem dX6_come_18 : decode cX6_come 18 = .ok (.iconst 1, 1) := by decide +kernel
theorem dX6_come_19 : decode cX6_come 19 = .ok (.sipush 200, 3) := by decide +kernel
theorem dX6_come_22 : decode cX6_come 22 = .ok (.invokestatic 39, 3) := by decide +kernel
theorem dX6_come_25 : decode cX6_come 25 = .ok (.ifCond .eq 24, 3) := by decide +kernel
theorem dX6_come_28 : decode cX6_come 28 = .ok (.iload 4, 2) := by decide +kernel
theorem dX6_come_30 : decode cX6_come 30 = .ok (.iconst 1, 1) := by decide +kernel
theorem dX6_come_31 : decode cX6_come 31 = .ok (.iconst 3, 1) := by decide +kernel
theorem dX6_come_32 : decode cX6_come 32 = .ok (.invokestatic 39, 3) := by decide +kernel
theorem dX6_come_35 : decode cX6_come 35 = .ok (.ifCond .eq 14, 3) := by decide +kernel
theorem dX6_come_38 : decode cX6_come 38 = .ok (.iload 5, 2) := by decide +kernel
theorem dX6_come_40 : decode cX6_come 40 = .ok (.iconst 0, 1) := by decide +kernel
theorem dX6_come_41 : decode cX6_come 41 = .ok (.bipush 100, 2) := by decide +kernel
theorem dX6_come_43 : decode cX6_come 43 = .ok (.invokestatic 39, 3) := by decide +kernel
theorem dX6_come_46 : decode cX6_come 46 = .ok (.ifCond .ne 13, 3) := by decide +kernel
theorem dX6_come_49 : decode cX6_come 49 = .ok (.new 43, 3) := by decide +kernel
theorem dX6_come_52 : decode cX6_come 52 = .ok (.dup, 1) := by decide +kernel
theorem dX6_come_53 : decode cX6_come 53 = .ok (.ldc 139, 2) := by decide +kernel
theorem dX6_come_55 : decode cX6_come 55 = .ok (.invokespecial 47, 3) := by decide +kernel
theorem dX6_come_58 : decode cX6_come 58 = .ok (.athrow, 1) := by decide +kernel
theorem dX6_come_59 : decode cX6_come 59 = .ok (.aload_n 0, 1) := by decide +kernel
theorem dX6_come_60 : decode cX6_come 60 = .ok (.getfield 23, 3) := by decide +kernel
theorem dX6_come_63 : decode cX6_come 63 = .ok (.invokevirtual 141, 3) := by decide +kernel
theorem dX6_come_66 : decode cX6_come 66 = .ok (.astore 7, 2) := by decide +kernel
theorem dX6_come_68 : decode cX6_come 68 = .ok (.aload 7, 2) := by decide +kernel
theorem dX6_come_70 : decode cX6_come 70 = .ok (.ifnonnull 13, 3) := by decide +kernel
theorem dX6_come_73 : decode cX6_come 73 = .ok (.new 58, 3) := by decide +kernel
theorem dX6_come_76 : decode cX6_come 76 = .ok (.dup, 1) := by decide +kernel
theorem dX6_come_77 : decode cX6_come 77 = .ok (.ldc 145, 2) := by decide +kernel
theorem dX6_come_79 : decode cX6_come 79 = .ok (.invokespecial 62, 3) := by decide +kernel
theorem dX6_come_82 : decode cX6_come 82 = .ok (.athrow, 1) := by decide +kernel
theorem dX6_come_83 : decode cX6_come 83 = .ok (.aload 7, 2) := by decide +kernel
theorem dX6_come_85 : decode cX6_come 85 = .ok (.iload_n 1, 1) := by decide +kernel
theorem dX6_come_86 : decode cX6_come 86 = .ok (.putfield 147, 3) := by decide +kernel
theorem dX6_come_89 : decode cX6_come 89 = .ok (.aload 7, 2) := by decide +kernel
theorem dX6_come_91 : decode cX6_come 91 = .ok (.iload_n 2, 1) := by decide +kernel
theorem dX6_come_92 : decode cX6_come 92 = .ok (.putfield 152, 3) := by decide +kernel
theorem dX6_come_95 : decode cX6_come 95 = .ok (.aload 7, 2) := by decide +kernel
theorem dX6_come_97 : decode cX6_come 97 = .ok (.iload_n 3, 1) := by decide +kernel
theorem dX6_come_98 : decode cX6_come 98 = .ok (.putfield 155, 3) := by decide +kernel
theorem dX6_come_101 : decode cX6_come 101 = .ok (.aload 7, 2) := by decide +kernel
theorem dX6_come_103 : decode cX6_come 103 = .ok (.iload 4, 2) := by decide +kernel
theorem dX6_come_105 : decode cX6_come 105 = .ok (.putfield 158, 3) := by decide +kernel
theorem dX6_come_108 : decode cX6_come 108 = .ok (.aload 7, 2) := by decide +kernel
theorem dX6_come_110 : decode cX6_come 110 = .ok (.iload 5, 2) := by decide +kernel
theorem dX6_come_112 : decode cX6_come 112 = .ok (.putfield 161, 3) := by decide +kernel
theorem dX6_come_115 : decode cX6_come 115 = .ok (.aload 7, 2) := by decide +kernel
theorem dX6_come_117 : decode cX6_come 117 = .ok (.iload 6, 2) := by decide +kernel
theorem dX6_come_119 : decode cX6_come 119 = .ok (.putfield 164, 3) := by decide +kernel
theorem dX6_come_122 : decode cX6_come 122 = .ok (.aload_n 0, 1) := by decide +kernel
theorem dX6_come_123 : decode cX6_come 123 = .ok (.getfield 23, 3) := by decide +kernel
theorem dX6_come_126 : decode cX6_come 126 = .ok (.iload_n 1, 1) := by decide +kernel
theorem dX6_come_127 : decode cX6_come 127 = .ok (.invokevirtual 168, 3) := by decide +kernel
theorem dX6_come_130 : decode cX6_come 130 = .ok (.getfield 172, 3) := by decide +kernel
theorem dX6_come_133 : decode cX6_come 133 = .ok (.aload 7, 2) := by decide +kernel
theorem dX6_come_135 : decode cX6_come 135 = .ok (.getfield 177, 3) := by decide +kernel
theorem dX6_come_138 : decode cX6_come 138 = .ok (.invokevirtual 180, 3) := by decide +kernel
theorem dX6_come_141 : decode cX6_come 141 = .ok (.aload 7, 2) := by decide +kernel
theorem dX6_come_143 : decode cX6_come 143 = .ok (.getfield 177, 3) := by decide +kernel
theorem dX6_come_146 : decode cX6_come 146 = .ok (.ireturn, 1) := by decide +kernel
theorem dX6_cart_0 : decode cX6_cart 0 = .ok (.aload_n 0, 1) := by decide +kernel
theorem dX6_cart_1 : decode cX6_cart 1 = .ok (.getfield 23, 3) := by decide +kernel
theorem dX6_cart_4 : decode cX6_cart 4 = .ok (.iload_n 1, 1) := by decide +kernel
theorem dX6_cart_5 : decode cX6_cart 5 = .ok (.invokevirtual 184, 3) := by decide +kernel
theorem dX6_cart_8 : decode cX6_cart 8 = .ok (.astore_n 3, 1) := by decide +kernel
theorem dX6_cart_9 : decode cX6_cart 9 = .ok (.aload_n 3, 1) := by decide +kernel
theorem dX6_cart_10 : decode cX6_cart 10 = .ok (.ifnull 12, 3) := by decide +kernel
theorem dX6_cart_13 : decode cX6_cart 13 = .ok (.iload_n 2, 1) := by decide +kernel
theorem dX6_cart_14 : decode cX6_cart 14 = .ok (.bipush 9, 2) := by decide +kernel
theorem dX6_cart_16 : decode cX6_cart 16 = .ok (.invokestatic 68, 3) := by decide +kernel
theorem dX6_cart_19 : decode cX6_cart 19 = .ok (.ifCond .ne 13, 3) := by decide +kernel
theorem dX6_cart_22 : decode cX6_cart 22 = .ok (.new 72, 3) := by decide +kernel
theorem dX6_cart_25 : decode cX6_cart 25 = .ok (.dup, 1) := by decide +kernel
theorem dX6_cart_26 : decode cX6_cart 26 = .ok (.ldc 188, 2) := by decide +kernel
theorem dX6_cart_28 : decode cX6_cart 28 = .ok (.invokespecial 76, 3) := by decide +kernel
theorem dX6_cart_31 : decode cX6_cart 31 = .ok (.athrow, 1) := by decide +kernel
theorem dX6_cart_32 : decode cX6_cart 32 = .ok (.aload_n 0, 1) := by decide +kernel
theorem dX6_cart_33 : decode cX6_cart 33 = .ok (.getfield 23, 3) := by decide +kernel
theorem dX6_cart_36 : decode cX6_cart 36 = .ok (.aload_n 3, 1) := by decide +kernel
theorem dX6_cart_37 : decode cX6_cart 37 = .ok (.iload_n 2, 1) := by decide +kernel
theorem dX6_cart_38 : decode cX6_cart 38 = .ok (.invokevirtual 190, 3) := by decide +kernel
theorem dX6_cart_41 : decode cX6_cart 41 = .ok (.ireturn, 1) := by decide +kernel
theorem dX6_queue_0 : decode cX6_queue 0 = .ok (.iload_n 1, 1) := by decide +kernel
theorem dX6_queue_1 : decode cX6_queue 1 = .ok (.iconst 2, 1) := by decide +kernel
theorem dX6_queue_2 : decode cX6_queue 2 = .ok (.invokestatic 68, 3) := by decide +kernel
theorem dX6_queue_5 : decode cX6_queue 5 = .ok (.ifCond .eq 24, 3) := by decide +kernel
theorem dX6_queue_8 : decode cX6_queue 8 = .ok (.iload_n 2, 1) := by decide +kernel
theorem dX6_queue_9 : decode cX6_queue 9 = .ok (.aload_n 0, 1) := by decide +kernel
theorem dX6_queue_10 : decode cX6_queue 10 = .ok (.getfield 23, 3) := by decide +kernel
theorem dX6_queue_13 : decode cX6_queue 13 = .ok (.iload_n 1, 1) := by decide +kernel
theorem dX6_queue_14 : decode cX6_queue 14 = .ok (.invokevirtual 168, 3) := by decide +kernel
theorem dX6_queue_17 : decode cX6_queue 17 = .ok (.getfield 172, 3) := by decide +kernel
theorem dX6_queue_20 : decode cX6_queue 20 = .ok (.getfield 114, 3) := by decide +kernel
theorem dX6_queue_23 : decode cX6_queue 23 = .ok (.invokestatic 68, 3) := by decide +kernel
theorem dX6_queue_26 : decode cX6_queue 26 = .ok (.ifCond .ne 13, 3) := by decide +kernel
theorem dX6_queue_29 : decode cX6_queue 29 = .ok (.new 72, 3) := by decide +kernel
theorem dX6_queue_32 : decode cX6_queue 32 = .ok (.dup, 1) := by decide +kernel
theorem dX6_queue_33 : decode cX6_queue 33 = .ok (.ldc 194, 2) := by decide +kernel
theorem dX6_queue_35 : decode cX6_queue 35 = .ok (.invokespecial 76, 3) := by decide +kernel
theorem dX6_queue_38 : decode cX6_queue 38 = .ok (.athrow, 1) := by decide +kernel
theorem dX6_queue_39 : decode cX6_queue 39 = .ok (.aload_n 0, 1) := by decide +kernel
theorem dX6_queue_40 : decode cX6_queue 40 = .ok (.getfield 23, 3) := by decide +kernel
theorem dX6_queue_43 : decode cX6_queue 43 = .ok (.iload_n 1, 1) := by decide +kernel
theorem dX6_queue_44 : decode cX6_queue 44 = .ok (.invokevirtual 168, 3) := by decide +kernel
theorem dX6_queue_47 : decode cX6_queue 47 = .ok (.getfield 172, 3) := by decide +kernel
theorem dX6_queue_50 : decode cX6_queue 50 = .ok (.iload_n 2, 1) := by decide +kernel
theorem dX6_queue_51 : decode cX6_queue 51 = .ok (.invokevirtual 196, 3) := by decide +kernel
theorem dX6_queue_54 : decode cX6_queue 54 = .ok (.ireturn, 1) := by decide +kernel
theorem dX6_box_0 : decode cX6_box 0 = .ok (.iload_n 1, 1) := by decide +kernel
theorem dX6_box_1 : decode cX6_box 1 = .ok (.iconst 2, 1) := by decide +kernel
theorem dX6_box_2 : decode cX6_box 2 = .ok (.invokestatic 68, 3) := by decide +kernel
theorem dX6_box_5 : decode cX6_box 5 = .ok (.ifCond .eq 11, 3) := by decide +kernel
theorem dX6_box_8 : decode cX6_box 8 = .ok (.iload_n 2, 1) := by decide +kernel
theorem dX6_box_9 : decode cX6_box 9 = .ok (.iconst 4, 1) := by decide +kernel
theorem dX6_box_10 : decode cX6_box 10 = .ok (.invokestatic 68, 3) := by decide +kernel
theorem dX6_box_13 : decode cX6_box 13 = .ok (.ifCond .ne 13, 3) := by decide +kernel
theorem dX6_box_16 : decode cX6_box 16 = .ok (.new 72, 3) := by decide +kernel
theorem dX6_box_19 : decode cX6_box 19 = .ok (.dup, 1) := by decide +kernel
theorem dX6_box_20 : decode cX6_box 20 = .ok (.ldc 199, 2) := by decide +kernel
theorem dX6_box_22 : decode cX6_box 22 = .ok (.invokespecial 76, 3) := by decide +kernel
theorem dX6_box_25 : decode cX6_box 25 = .ok (.athrow, 1) := by decide +kernel
theorem dX6_box_26 : decode cX6_box 26 = .ok (.aload_n 0, 1) := by decide +kernel
theorem dX6_box_27 : decode cX6_box 27 = .ok (.getfield 23, 3) := by decide +kernel
theorem dX6_box_30 : decode cX6_box 30 = .ok (.iload_n 1, 1) := by decide +kernel
theorem dX6_box_31 : decode cX6_box 31 = .ok (.invokevirtual 168, 3) := by decide +kernel
theorem dX6_box_34 : decode cX6_box 34 = .ok (.iload_n 2, 1) := by decide +kernel
theorem dX6_box_35 : decode cX6_box 35 = .ok (.invokevirtual 201, 3) := by decide +kernel
theorem dX6_box_38 : decode cX6_box 38 = .ok (.ireturn, 1) := by decide +kernel
theorem dX6_empty_0 : decode cX6_empty 0 = .ok (.iload_n 1, 1) := by decide +kernel
theorem dX6_empty_1 : decode cX6_empty 1 = .ok (.iconst 2, 1) := by decide +kernel
theorem dX6_empty_2 : decode cX6_empty 2 = .ok (.invokestatic 68, 3) := by decide +kernel
theorem dX6_empty_5 : decode cX6_empty 5 = .ok (.ifCond .ne 13, 3) := by decide +kernel
theorem dX6_empty_8 : decode cX6_empty 8 = .ok (.new 72, 3) := by decide +kernel
theorem dX6_empty_11 : decode cX6_empty 11 = .ok (.dup, 1) := by decide +kernel
theorem dX6_empty_12 : decode cX6_empty 12 = .ok (.ldc 204, 2) := by decide +kernel
theorem dX6_empty_14 : decode cX6_empty 14 = .ok (.invokespecial 76, 3) := by decide +kernel
theorem dX6_empty_17 : decode cX6_empty 17 = .ok (.athrow, 1) := by decide +kernel
theorem dX6_empty_18 : decode cX6_empty 18 = .ok (.aload_n 0, 1) := by decide +kernel
theorem dX6_empty_19 : decode cX6_empty 19 = .ok (.getfield 23, 3) := by decide +kernel
theorem dX6_empty_22 : decode cX6_empty 22 = .ok (.iload_n 1, 1) := by decide +kernel
theorem dX6_empty_23 : decode cX6_empty 23 = .ok (.invokevirtual 168, 3) := by decide +kernel
theorem dX6_empty_26 : decode cX6_empty 26 = .ok (.astore_n 2, 1) := by decide +kernel
theorem dX6_empty_27 : decode cX6_empty 27 = .ok (.aload_n 2, 1) := by decide +kernel
theorem dX6_empty_28 : decode cX6_empty 28 = .ok (.getfield 206, 3) := by decide +kernel
theorem dX6_empty_31 : decode cX6_empty 31 = .ok (.istore_n 3, 1) := by decide +kernel
theorem dX6_empty_32 : decode cX6_empty 32 = .ok (.aload_n 2, 1) := by decide +kernel
theorem dX6_empty_33 : decode cX6_empty 33 = .ok (.iconst 0, 1) := by decide +kernel
theorem dX6_empty_34 : decode cX6_empty 34 = .ok (.putfield 209, 3) := by decide +kernel
theorem dX6_empty_37 : decode cX6_empty 37 = .ok (.aload_n 2, 1) := by decide +kernel
theorem dX6_empty_38 : decode cX6_empty 38 = .ok (.iconst 0, 1) := by decide +kernel
theorem dX6_empty_39 : decode cX6_empty 39 = .ok (.putfield 206, 3) := by decide +kernel
theorem dX6_empty_42 : decode cX6_empty 42 = .ok (.iload_n 3, 1) := by decide +kernel
theorem dX6_empty_43 : decode cX6_empty 43 = .ok (.ireturn, 1) := by decide +kernel
theorem dX6_pass_0 : decode cX6_pass 0 = .ok (.iload_n 1, 1) := by decide +kernel
theorem dX6_pass_1 : decode cX6_pass 1 = .ok (.iconst 1, 1) := by decide +kernel
theorem dX6_pass_2 : decode cX6_pass 2 = .ok (.sipush 200, 3) := by decide +kernel
theorem dX6_pass_5 : decode cX6_pass 5 = .ok (.invokestatic 39, 3) := by decide +kernel
theorem dX6_pass_8 : decode cX6_pass 8 = .ok (.ifCond .ne 13, 3) := by decide +kernel
theorem dX6_pass_11 : decode cX6_pass 11 = .ok (.new 43, 3) := by decide +kernel
theorem dX6_pass_14 : decode cX6_pass 14 = .ok (.dup, 1) := by decide +kernel
theorem dX6_pass_15 : decode cX6_pass 15 = .ok (.ldc 210, 2) := by decide +kernel
theorem dX6_pass_17 : decode cX6_pass 17 = .ok (.invokespecial 47, 3) := by decide +kernel
theorem dX6_pass_20 : decode cX6_pass 20 = .ok (.athrow, 1) := by decide +kernel
theorem dX6_pass_21 : decode cX6_pass 21 = .ok (.aload_n 0, 1) := by decide +kernel
theorem dX6_pass_22 : decode cX6_pass 22 = .ok (.getfield 23, 3) := by decide +kernel
theorem dX6_pass_25 : decode cX6_pass 25 = .ok (.iload_n 1, 1) := by decide +kernel
theorem dX6_pass_26 : decode cX6_pass 26 = .ok (.invokevirtual 212, 3) := by decide +kernel
theorem dX6_pass_29 : decode cX6_pass 29 = .ok (.ireturn, 1) := by decide +kernel
theorem dX6_count_0 : decode cX6_count 0 = .ok (.iload_n 1, 1) := by decide +kernel
theorem dX6_count_1 : decode cX6_count 1 = .ok (.bipush 11, 2) := by decide +kernel
theorem dX6_count_3 : decode cX6_count 3 = .ok (.invokestatic 68, 3) := by decide +kernel
theorem dX6_count_6 : decode cX6_count 6 = .ok (.ifCond .ne 13, 3) := by decide +kernel
theorem dX6_count_9 : decode cX6_count 9 = .ok (.new 72, 3) := by decide +kernel
theorem dX6_count_12 : decode cX6_count 12 = .ok (.dup, 1) := by decide +kernel
theorem dX6_count_13 : decode cX6_count 13 = .ok (.ldc 215, 2) := by decide +kernel
theorem dX6_count_15 : decode cX6_count 15 = .ok (.invokespecial 76, 3) := by decide +kernel
theorem dX6_count_18 : decode cX6_count 18 = .ok (.athrow, 1) := by decide +kernel
theorem dX6_count_19 : decode cX6_count 19 = .ok (.aload_n 0, 1) := by decide +kernel
theorem dX6_count_20 : decode cX6_count 20 = .ok (.iload_n 1, 1) := by decide +kernel
theorem dX6_count_21 : decode cX6_count 21 = .ok (.invokevirtual 217, 3) := by decide +kernel
theorem dX6_count_24 : decode cX6_count 24 = .ok (.ireturn, 1) := by decide +kernel
theorem dX6_over_0 : decode cX6_over 0 = .ok (.aload_n 0, 1) := by decide +kernel
theorem dX6_over_1 : decode cX6_over 1 = .ok (.getfield 23, 3) := by decide +kernel
theorem dX6_over_4 : decode cX6_over 4 = .ok (.iload_n 1, 1) := by decide +kernel
theorem dX6_over_5 : decode cX6_over 5 = .ok (.invokevirtual 184, 3) := by decide +kernel
theorem dX6_over_8 : decode cX6_over 8 = .ok (.ifnonnull 13, 3) := by decide +kernel
theorem dX6_over_11 : decode cX6_over 11 = .ok (.new 72, 3) := by decide +kernel
theorem dX6_over_14 : decode cX6_over 14 = .ok (.dup, 1) := by decide +kernel
theorem dX6_over_15 : decode cX6_over 15 = .ok (.ldc 220, 2) := by decide +kernel
theorem dX6_over_17 : decode cX6_over 17 = .ok (.invokespecial 76, 3) := by decide +kernel
theorem dX6_over_20 : decode cX6_over 20 = .ok (.athrow, 1) := by decide +kernel
theorem dX6_over_21 : decode cX6_over 21 = .ok (.aload_n 0, 1) := by decide +kernel
theorem dX6_over_22 : decode cX6_over 22 = .ok (.getfield 27, 3) := by decide +kernel
theorem dX6_over_25 : decode cX6_over 25 = .ok (.aload_n 0, 1) := by decide +kernel
theorem dX6_over_26 : decode cX6_over 26 = .ok (.getfield 23, 3) := by decide +kernel
theorem dX6_over_29 : decode cX6_over 29 = .ok (.invokevirtual 222, 3) := by decide +kernel
theorem dX6_over_32 : decode cX6_over 32 = .ok (.iconst 0, 1) := by decide +kernel
theorem dX6_over_33 : decode cX6_over 33 = .ok (.istore_n 2, 1) := by decide +kernel
theorem dX6_over_34 : decode cX6_over 34 = .ok (.iload_n 2, 1) := by decide +kernel
theorem dX6_over_35 : decode cX6_over 35 = .ok (.sipush 200, 3) := by decide +kernel
theorem dX6_over_38 : decode cX6_over 38 = .ok (.if_icmp .gt 31, 3) := by decide +kernel
theorem dX6_over_41 : decode cX6_over 41 = .ok (.aload_n 0, 1) := by decide +kernel
theorem dX6_over_42 : decode cX6_over 42 = .ok (.getfield 27, 3) := by decide +kernel
theorem dX6_over_45 : decode cX6_over 45 = .ok (.iload_n 1, 1) := by decide +kernel
theorem dX6_over_46 : decode cX6_over 46 = .ok (.invokevirtual 226, 3) := by decide +kernel
theorem dX6_over_49 : decode cX6_over 49 = .ok (.ifCond .eq 5, 3) := by decide +kernel
theorem dX6_over_52 : decode cX6_over 52 = .ok (.iload_n 2, 1) := by decide +kernel
theorem dX6_over_53 : decode cX6_over 53 = .ok (.ireturn, 1) := by decide +kernel
theorem dX6_over_54 : decode cX6_over 54 = .ok (.aload_n 0, 1) := by decide +kernel
theorem dX6_over_55 : decode cX6_over 55 = .ok (.getfield 27, 3) := by decide +kernel
theorem dX6_over_58 : decode cX6_over 58 = .ok (.iconst 1, 1) := by decide +kernel
theorem dX6_over_59 : decode cX6_over 59 = .ok (.invokevirtual 212, 3) := by decide +kernel
theorem dX6_over_62 : decode cX6_over 62 = .ok (.pop, 1) := by decide +kernel
theorem dX6_over_63 : decode cX6_over 63 = .ok (.iinc 2 1, 3) := by decide +kernel
theorem dX6_over_66 : decode cX6_over 66 = .ok (.goto (-32), 3) := by decide +kernel
theorem dX6_over_69 : decode cX6_over 69 = .ok (.iconst (-1), 1) := by decide +kernel
theorem dX6_over_70 : decode cX6_over 70 = .ok (.ireturn, 1) := by decide +kernel
theorem dX6_keep_0 : decode cX6_keep 0 = .ok (.aload_n 0, 1) := by decide +kernel
theorem dX6_keep_1 : decode cX6_keep 1 = .ok (.getfield 30, 3) := by decide +kernel
theorem dX6_keep_4 : decode cX6_keep 4 = .ok (.aload_n 0, 1) := by decide +kernel
theorem dX6_keep_5 : decode cX6_keep 5 = .ok (.getfield 23, 3) := by decide +kernel
theorem dX6_keep_8 : decode cX6_keep 8 = .ok (.invokevirtual 222, 3) := by decide +kernel
theorem dX6_keep_11 : decode cX6_keep 11 = .ok (.aload_n 0, 1) := by decide +kernel
theorem dX6_keep_12 : decode cX6_keep 12 = .ok (.getfield 30, 3) := by decide +kernel
theorem dX6_keep_15 : decode cX6_keep 15 = .ok (.bipush 60, 2) := by decide +kernel
theorem dX6_keep_17 : decode cX6_keep 17 = .ok (.invokevirtual 212, 3) := by decide +kernel
theorem dX6_keep_20 : decode cX6_keep 20 = .ok (.istore_n 1, 1) := by decide +kernel
theorem dX6_keep_21 : decode cX6_keep 21 = .ok (.iconst (-1), 1) := by decide +kernel
theorem dX6_keep_22 : decode cX6_keep 22 = .ok (.istore_n 2, 1) := by decide +kernel
theorem dX6_keep_23 : decode cX6_keep 23 = .ok (.iconst 0, 1) := by decide +kernel
theorem dX6_keep_24 : decode cX6_keep 24 = .ok (.istore_n 3, 1) := by decide +kernel
theorem dX6_keep_25 : decode cX6_keep 25 = .ok (.aload_n 0, 1) := by decide +kernel
theorem dX6_keep_26 : decode cX6_keep 26 = .ok (.getfield 27, 3) := by decide +kernel
theorem dX6_keep_29 : decode cX6_keep 29 = .ok (.aload_n 0, 1) := by decide +kernel
theorem dX6_keep_30 : decode cX6_keep 30 = .ok (.getfield 23, 3) := by decide +kernel
theorem dX6_keep_33 : decode cX6_keep 33 = .ok (.invokevirtual 222, 3) := by decide +kernel
theorem dX6_keep_36 : decode cX6_keep 36 = .ok (.iconst 0, 1) := by decide +kernel
theorem dX6_keep_37 : decode cX6_keep 37 = .ok (.istore 4, 2) := by decide +kernel
theorem dX6_keep_39 : decode cX6_keep 39 = .ok (.iload 4, 2) := by decide +kernel
theorem dX6_keep_41 : decode cX6_keep 41 = .ok (.bipush 60, 2) := by decide +kernel
theorem dX6_keep_43 : decode cX6_keep 43 = .ok (.if_icmp .ge 66, 3) := by decide +kernel
theorem dX6_keep_46 : decode cX6_keep 46 = .ok (.aload_n 0, 1) := by decide +kernel
theorem dX6_keep_47 : decode cX6_keep 47 = .ok (.getfield 30, 3) := by decide +kernel
theorem dX6_keep_50 : decode cX6_keep 50 = .ok (.aload_n 0, 1) := by decide +kernel
theorem dX6_keep_51 : decode cX6_keep 51 = .ok (.getfield 27, 3) := by decide +kernel
theorem dX6_keep_54 : decode cX6_keep 54 = .ok (.invokevirtual 222, 3) := by decide +kernel
theorem dX6_keep_57 : decode cX6_keep 57 = .ok (.aload_n 0, 1) := by decide +kernel
theorem dX6_keep_58 : decode cX6_keep 58 = .ok (.getfield 30, 3) := by decide +kernel
theorem dX6_keep_61 : decode cX6_keep 61 = .ok (.invokevirtual 133, 3) := by decide +kernel
theorem dX6_keep_64 : decode cX6_keep 64 = .ok (.iload_n 3, 1) := by decide +kernel
theorem dX6_keep_65 : decode cX6_keep 65 = .ok (.aload_n 0, 1) := by decide +kernel
theorem dX6_keep_66 : decode cX6_keep 66 = .ok (.getfield 30, 3) := by decide +kernel
theorem dX6_keep_69 : decode cX6_keep 69 = .ok (.bipush 60, 2) := by decide +kernel
theorem dX6_keep_71 : decode cX6_keep 71 = .ok (.iload 4, 2) := by decide +kernel
theorem dX6_keep_73 : decode cX6_keep 73 = .ok (.isub, 1) := by decide +kernel
theorem dX6_keep_74 : decode cX6_keep 74 = .ok (.invokevirtual 212, 3) := by decide +kernel
theorem dX6_keep_77 : decode cX6_keep 77 = .ok (.iadd, 1) := by decide +kernel
theorem dX6_keep_78 : decode cX6_keep 78 = .ok (.istore 5, 2) := by decide +kernel
theorem dX6_keep_80 : decode cX6_keep 80 = .ok (.iload 5, 2) := by decide +kernel
theorem dX6_keep_82 : decode cX6_keep 82 = .ok (.iload_n 1, 1) := by decide +kernel
theorem dX6_keep_83 : decode cX6_keep 83 = .ok (.if_icmp .le 9, 3) := by decide +kernel
theorem dX6_keep_86 : decode cX6_keep 86 = .ok (.iload 5, 2) := by decide +kernel
theorem dX6_keep_88 : decode cX6_keep 88 = .ok (.istore_n 1, 1) := by decide +kernel
theorem dX6_keep_89 : decode cX6_keep 89 = .ok (.iload 4, 2) := by decide +kernel
theorem dX6_keep_91 : decode cX6_keep 91 = .ok (.istore_n 2, 1) := by decide +kernel
theorem dX6_keep_92 : decode cX6_keep 92 = .ok (.iload_n 3, 1) := by decide +kernel
theorem dX6_keep_93 : decode cX6_keep 93 = .ok (.aload_n 0, 1) := by decide +kernel
theorem dX6_keep_94 : decode cX6_keep 94 = .ok (.getfield 27, 3) := by decide +kernel
theorem dX6_keep_97 : decode cX6_keep 97 = .ok (.iconst 1, 1) := by decide +kernel
theorem dX6_keep_98 : decode cX6_keep 98 = .ok (.invokevirtual 212, 3) := by decide +kernel
theorem dX6_keep_101 : decode cX6_keep 101 = .ok (.iadd, 1) := by decide +kernel
theorem dX6_keep_102 : decode cX6_keep 102 = .ok (.istore_n 3, 1) := by decide +kernel
theorem dX6_keep_103 : decode cX6_keep 103 = .ok (.iinc 4 1, 3) := by decide +kernel
theorem dX6_keep_106 : decode cX6_keep 106 = .ok (.goto (-67), 3) := by decide +kernel
theorem dX6_keep_109 : decode cX6_keep 109 = .ok (.iload_n 2, 1) := by decide +kernel
theorem dX6_keep_110 : decode cX6_keep 110 = .ok (.ireturn, 1) := by decide +kernel
theorem dX6_foresee_0 : decode cX6_foresee 0 = .ok (.iload_n 1, 1) := by decide +kernel
theorem dX6_foresee_1 : decode cX6_foresee 1 = .ok (.iconst 1, 1) := by decide +kernel
theorem dX6_foresee_2 : decode cX6_foresee 2 = .ok (.bipush 100, 2) := by decide +kernel
theorem dX6_foresee_4 : decode cX6_foresee 4 = .ok (.invokestatic 39, 3) := by decide +kernel
theorem dX6_foresee_7 : decode cX6_foresee 7 = .ok (.ifCond .ne 13, 3) := by decide +kernel
theorem dX6_foresee_10 : decode cX6_foresee 10 = .ok (.new 43, 3) := by decide +kernel
theorem dX6_foresee_13 : decode cX6_foresee 13 = .ok (.dup, 1) := by decide +kernel
theorem dX6_foresee_14 : decode cX6_foresee 14 = .ok (.ldc 229, 2) := by decide +kernel
theorem dX6_foresee_16 : decode cX6_foresee 16 = .ok (.invokespecial 47, 3) := by decide +kernel
theorem dX6_foresee_19 : decode cX6_foresee 19 = .ok (.athrow, 1) := by decide +kernel
theorem dX6_foresee_20 : decode cX6_foresee 20 = .ok (.iload_n 2, 1) := by decide +kernel
theorem dX6_foresee_21 : decode cX6_foresee 21 = .ok (.iconst 3, 1) := by decide +kernel
theorem dX6_foresee_22 : decode cX6_foresee 22 = .ok (.invokestatic 68, 3) := by decide +kernel
theorem dX6_foresee_25 : decode cX6_foresee 25 = .ok (.ifCond .ne 13, 3) := by decide +kernel
theorem dX6_foresee_28 : decode cX6_foresee 28 = .ok (.new 72, 3) := by decide +kernel
theorem dX6_foresee_31 : decode cX6_foresee 31 = .ok (.dup, 1) := by decide +kernel
theorem dX6_foresee_32 : decode cX6_foresee 32 = .ok (.ldc 74, 2) := by decide +kernel
theorem dX6_foresee_34 : decode cX6_foresee 34 = .ok (.invokespecial 76, 3) := by decide +kernel
theorem dX6_foresee_37 : decode cX6_foresee 37 = .ok (.athrow, 1) := by decide +kernel
theorem dX6_foresee_38 : decode cX6_foresee 38 = .ok (.aload_n 0, 1) := by decide +kernel
theorem dX6_foresee_39 : decode cX6_foresee 39 = .ok (.getfield 27, 3) := by decide +kernel
theorem dX6_foresee_42 : decode cX6_foresee 42 = .ok (.aload_n 0, 1) := by decide +kernel
theorem dX6_foresee_43 : decode cX6_foresee 43 = .ok (.getfield 23, 3) := by decide +kernel
theorem dX6_foresee_46 : decode cX6_foresee 46 = .ok (.invokevirtual 222, 3) := by decide +kernel
theorem dX6_foresee_49 : decode cX6_foresee 49 = .ok (.aload_n 0, 1) := by decide +kernel
theorem dX6_foresee_50 : decode cX6_foresee 50 = .ok (.getfield 27, 3) := by decide +kernel
theorem dX6_foresee_53 : decode cX6_foresee 53 = .ok (.iload_n 1, 1) := by decide +kernel
theorem dX6_foresee_54 : decode cX6_foresee 54 = .ok (.invokevirtual 212, 3) := by decide +kernel
theorem dX6_foresee_57 : decode cX6_foresee 57 = .ok (.istore_n 3, 1) := by decide +kernel
theorem dX6_foresee_58 : decode cX6_foresee 58 = .ok (.iload_n 2, 1) := by decide +kernel
theorem dX6_foresee_59 : decode cX6_foresee 59 = .ok (.lookupswitch 43 #[(0, 25), (1, 27)], 25) := by decide +kernel
theorem dX6_foresee_84 : decode cX6_foresee 84 = .ok (.iload_n 3, 1) := by decide +kernel
theorem dX6_foresee_85 : decode cX6_foresee 85 = .ok (.ireturn, 1) := by decide +kernel
theorem dX6_foresee_86 : decode cX6_foresee 86 = .ok (.aload_n 0, 1) := by decide +kernel
theorem dX6_foresee_87 : decode cX6_foresee 87 = .ok (.getfield 27, 3) := by decide +kernel
theorem dX6_foresee_90 : decode cX6_foresee 90 = .ok (.invokevirtual 231, 3) := by decide +kernel
theorem dX6_foresee_93 : decode cX6_foresee 93 = .ok (.aload_n 0, 1) := by decide +kernel
theorem dX6_foresee_94 : decode cX6_foresee 94 = .ok (.getfield 23, 3) := by decide +kernel
theorem dX6_foresee_97 : decode cX6_foresee 97 = .ok (.invokevirtual 231, 3) := by decide +kernel
theorem dX6_foresee_100 : decode cX6_foresee 100 = .ok (.isub, 1) := by decide +kernel
theorem dX6_foresee_101 : decode cX6_foresee 101 = .ok (.ireturn, 1) := by decide +kernel
theorem dX6_foresee_102 : decode cX6_foresee 102 = .ok (.aload_n 0, 1) := by decide +kernel
theorem dX6_foresee_103 : decode cX6_foresee 103 = .ok (.getfield 27, 3) := by decide +kernel
theorem dX6_foresee_106 : decode cX6_foresee 106 = .ok (.getfield 110, 3) := by decide +kernel
theorem dX6_foresee_109 : decode cX6_foresee 109 = .ok (.getfield 114, 3) := by decide +kernel
theorem dX6_foresee_112 : decode cX6_foresee 112 = .ok (.ireturn, 1) := by decide +kernel
theorem dX6_digest_0 : decode cX6_digest 0 = .ok (.ldc2_w 239, 3) := by decide +kernel
theorem dX6_digest_3 : decode cX6_digest 3 = .ok (.lstore_n 1, 1) := by decide +kernel
theorem dX6_digest_4 : decode cX6_digest 4 = .ok (.iconst 0, 1) := by decide +kernel
theorem dX6_digest_5 : decode cX6_digest 5 = .ok (.istore_n 3, 1) := by decide +kernel
theorem dX6_digest_6 : decode cX6_digest 6 = .ok (.iload_n 3, 1) := by decide +kernel
theorem dX6_digest_7 : decode cX6_digest 7 = .ok (.bipush 11, 2) := by decide +kernel
theorem dX6_digest_9 : decode cX6_digest 9 = .ok (.if_icmp .ge 19, 3) := by decide +kernel
theorem dX6_digest_12 : decode cX6_digest 12 = .ok (.lload_n 1, 1) := by decide +kernel
theorem dX6_digest_13 : decode cX6_digest 13 = .ok (.aload_n 0, 1) := by decide +kernel
theorem dX6_digest_14 : decode cX6_digest 14 = .ok (.iload_n 3, 1) := by decide +kernel
theorem dX6_digest_15 : decode cX6_digest 15 = .ok (.invokevirtual 217, 3) := by decide +kernel
theorem dX6_digest_18 : decode cX6_digest 18 = .ok (.invokestatic 241, 3) := by decide +kernel
theorem dX6_digest_21 : decode cX6_digest 21 = .ok (.lstore_n 1, 1) := by decide +kernel
theorem dX6_digest_22 : decode cX6_digest 22 = .ok (.iinc 3 1, 3) := by decide +kernel
theorem dX6_digest_25 : decode cX6_digest 25 = .ok (.goto (-19), 3) := by decide +kernel
theorem dX6_digest_28 : decode cX6_digest 28 = .ok (.aload_n 0, 1) := by decide +kernel
theorem dX6_digest_29 : decode cX6_digest 29 = .ok (.getfield 10, 3) := by decide +kernel
theorem dX6_digest_32 : decode cX6_digest 32 = .ok (.lload_n 1, 1) := by decide +kernel
theorem dX6_digest_33 : decode cX6_digest 33 = .ok (.invokevirtual 245, 3) := by decide +kernel
theorem dX6_digest_36 : decode cX6_digest 36 = .ok (.lstore_n 1, 1) := by decide +kernel
theorem dX6_digest_37 : decode cX6_digest 37 = .ok (.iconst 0, 1) := by decide +kernel
theorem dX6_digest_38 : decode cX6_digest 38 = .ok (.istore_n 3, 1) := by decide +kernel
theorem dX6_digest_39 : decode cX6_digest 39 = .ok (.iload_n 3, 1) := by decide +kernel
theorem dX6_digest_40 : decode cX6_digest 40 = .ok (.aload_n 0, 1) := by decide +kernel
theorem dX6_digest_41 : decode cX6_digest 41 = .ok (.getfield 16, 3) := by decide +kernel
theorem dX6_digest_44 : decode cX6_digest 44 = .ok (.arraylength, 1) := by decide +kernel
theorem dX6_digest_45 : decode cX6_digest 45 = .ok (.if_icmp .ge 20, 3) := by decide +kernel
theorem dX6_digest_48 : decode cX6_digest 48 = .ok (.lload_n 1, 1) := by decide +kernel
theorem dX6_digest_49 : decode cX6_digest 49 = .ok (.aload_n 0, 1) := by decide +kernel
theorem dX6_digest_50 : decode cX6_digest 50 = .ok (.getfield 16, 3) := by decide +kernel
theorem dX6_digest_53 : decode cX6_digest 53 = .ok (.iload_n 3, 1) := by decide +kernel
theorem dX6_digest_54 : decode cX6_digest 54 = .ok (.iaload, 1) := by decide +kernel
theorem dX6_digest_55 : decode cX6_digest 55 = .ok (.invokestatic 241, 3) := by decide +kernel
theorem dX6_digest_58 : decode cX6_digest 58 = .ok (.lstore_n 1, 1) := by decide +kernel
theorem dX6_digest_59 : decode cX6_digest 59 = .ok (.iinc 3 1, 3) := by decide +kernel
theorem dX6_digest_62 : decode cX6_digest 62 = .ok (.goto (-23), 3) := by decide +kernel
theorem dX6_digest_65 : decode cX6_digest 65 = .ok (.aload_n 0, 1) := by decide +kernel
theorem dX6_digest_66 : decode cX6_digest 66 = .ok (.getfield 23, 3) := by decide +kernel
theorem dX6_digest_69 : decode cX6_digest 69 = .ok (.lload_n 1, 1) := by decide +kernel
theorem dX6_digest_70 : decode cX6_digest 70 = .ok (.invokevirtual 249, 3) := by decide +kernel
theorem dX6_digest_73 : decode cX6_digest 73 = .ok (.lreturn, 1) := by decide +kernel
theorem dX6_isBetween_0 : decode cX6_isBetween 0 = .ok (.iload_n 0, 1) := by decide +kernel
theorem dX6_isBetween_1 : decode cX6_isBetween 1 = .ok (.iload_n 1, 1) := by decide +kernel
theorem dX6_isBetween_2 : decode cX6_isBetween 2 = .ok (.if_icmp .lt 12, 3) := by decide +kernel
theorem dX6_isBetween_5 : decode cX6_isBetween 5 = .ok (.iload_n 0, 1) := by decide +kernel
theorem dX6_isBetween_6 : decode cX6_isBetween 6 = .ok (.iload_n 2, 1) := by decide +kernel
theorem dX6_isBetween_7 : decode cX6_isBetween 7 = .ok (.if_icmp .gt 7, 3) := by decide +kernel
theorem dX6_isBetween_10 : decode cX6_isBetween 10 = .ok (.iconst 1, 1) := by decide +kernel
theorem dX6_isBetween_11 : decode cX6_isBetween 11 = .ok (.goto 4, 3) := by decide +kernel
theorem dX6_isBetween_14 : decode cX6_isBetween 14 = .ok (.iconst 0, 1) := by decide +kernel
theorem dX6_isBetween_15 : decode cX6_isBetween 15 = .ok (.ireturn, 1) := by decide +kernel
theorem dX6_isIndex_0 : decode cX6_isIndex 0 = .ok (.iload_n 0, 1) := by decide +kernel
theorem dX6_isIndex_1 : decode cX6_isIndex 1 = .ok (.ifCond .lt 12, 3) := by decide +kernel
theorem dX6_isIndex_4 : decode cX6_isIndex 4 = .ok (.iload_n 0, 1) := by decide +kernel
theorem dX6_isIndex_5 : decode cX6_isIndex 5 = .ok (.iload_n 1, 1) := by decide +kernel
theorem dX6_isIndex_6 : decode cX6_isIndex 6 = .ok (.if_icmp .ge 7, 3) := by decide +kernel
theorem dX6_isIndex_9 : decode cX6_isIndex 9 = .ok (.iconst 1, 1) := by decide +kernel
theorem dX6_isIndex_10 : decode cX6_isIndex 10 = .ok (.goto 4, 3) := by decide +kernel
theorem dX6_isIndex_13 : decode cX6_isIndex 13 = .ok (.iconst 0, 1) := by decide +kernel
theorem dX6_isIndex_14 : decode cX6_isIndex 14 = .ok (.ireturn, 1) := by decide +kernel
theorem dX6_mixed_0 : decode cX6_mixed 0 = .ok (.lload_n 0, 1) := by decide +kernel
theorem dX6_mixed_1 : decode cX6_mixed 1 = .ok (.ldc2_w 250, 3) := by decide +kernel
theorem dX6_mixed_4 : decode cX6_mixed 4 = .ok (.lmul, 1) := by decide +kernel
theorem dX6_mixed_5 : decode cX6_mixed 5 = .ok (.iload_n 2, 1) := by decide +kernel
theorem dX6_mixed_6 : decode cX6_mixed 6 = .ok (.i2l, 1) := by decide +kernel
theorem dX6_mixed_7 : decode cX6_mixed 7 = .ok (.ladd, 1) := by decide +kernel
theorem dX6_mixed_8 : decode cX6_mixed 8 = .ok (.lreturn, 1) := by decide +kernel
theorem dX6_countOf_0 : decode cX6_countOf 0 = .ok (.iload_n 1, 1) := by decide +kernel
theorem dX6_countOf_1 : decode cX6_countOf 1 = .ok (.tableswitch 139 0 9 #[55, 63, 71, 79, 88, 97, 106, 115, 123, 131], 55) := by decide +kernel
theorem dX6_countOf_56 : decode cX6_countOf 56 = .ok (.aload_n 0, 1) := by decide +kernel
theorem dX6_countOf_57 : decode cX6_countOf 57 = .ok (.getfield 23, 3) := by decide +kernel
theorem dX6_countOf_60 : decode cX6_countOf 60 = .ok (.getfield 90, 3) := by decide +kernel
theorem dX6_countOf_63 : decode cX6_countOf 63 = .ok (.ireturn, 1) := by decide +kernel
theorem dX6_countOf_64 : decode cX6_countOf 64 = .ok (.aload_n 0, 1) := by decide +kernel
theorem dX6_countOf_65 : decode cX6_countOf 65 = .ok (.getfield 10, 3) := by decide +kernel
theorem dX6_countOf_68 : decode cX6_countOf 68 = .ok (.getfield 81, 3) := by decide +kernel
theorem dX6_countOf_71 : decode cX6_countOf 71 = .ok (.ireturn, 1) := by decide +kernel
theorem dX6_countOf_72 : decode cX6_countOf 72 = .ok (.aload_n 0, 1) := by decide +kernel
theorem dX6_countOf_73 : decode cX6_countOf 73 = .ok (.getfield 23, 3) := by decide +kernel
theorem dX6_countOf_76 : decode cX6_countOf 76 = .ok (.getfield 258, 3) := by decide +kernel
theorem dX6_countOf_79 : decode cX6_countOf 79 = .ok (.ireturn, 1) := by decide +kernel
theorem dX6_countOf_80 : decode cX6_countOf 80 = .ok (.aload_n 0, 1) := by decide +kernel
theorem dX6_countOf_81 : decode cX6_countOf 81 = .ok (.getfield 23, 3) := by decide +kernel
theorem dX6_countOf_84 : decode cX6_countOf 84 = .ok (.iconst 0, 1) := by decide +kernel
theorem dX6_countOf_85 : decode cX6_countOf 85 = .ok (.invokevirtual 261, 3) := by decide +kernel
theorem dX6_countOf_88 : decode cX6_countOf 88 = .ok (.ireturn, 1) := by decide +kernel
theorem dX6_countOf_89 : decode cX6_countOf 89 = .ok (.aload_n 0, 1) := by decide +kernel
theorem dX6_countOf_90 : decode cX6_countOf 90 = .ok (.getfield 23, 3) := by decide +kernel
theorem dX6_countOf_93 : decode cX6_countOf 93 = .ok (.iconst 1, 1) := by decide +kernel
theorem dX6_countOf_94 : decode cX6_countOf 94 = .ok (.invokevirtual 261, 3) := by decide +kernel
theorem dX6_countOf_97 : decode cX6_countOf 97 = .ok (.ireturn, 1) := by decide +kernel
theorem dX6_countOf_98 : decode cX6_countOf 98 = .ok (.aload_n 0, 1) := by decide +kernel
theorem dX6_countOf_99 : decode cX6_countOf 99 = .ok (.getfield 23, 3) := by decide +kernel
theorem dX6_countOf_102 : decode cX6_countOf 102 = .ok (.iconst 2, 1) := by decide +kernel
theorem dX6_countOf_103 : decode cX6_countOf 103 = .ok (.invokevirtual 261, 3) := by decide +kernel
theorem dX6_countOf_106 : decode cX6_countOf 106 = .ok (.ireturn, 1) := by decide +kernel
theorem dX6_countOf_107 : decode cX6_countOf 107 = .ok (.aload_n 0, 1) := by decide +kernel
theorem dX6_countOf_108 : decode cX6_countOf 108 = .ok (.getfield 23, 3) := by decide +kernel
theorem dX6_countOf_111 : decode cX6_countOf 111 = .ok (.iconst 3, 1) := by decide +kernel
theorem dX6_countOf_112 : decode cX6_countOf 112 = .ok (.invokevirtual 261, 3) := by decide +kernel
theorem dX6_countOf_115 : decode cX6_countOf 115 = .ok (.ireturn, 1) := by decide +kernel
theorem dX6_countOf_116 : decode cX6_countOf 116 = .ok (.aload_n 0, 1) := by decide +kernel
theorem dX6_countOf_117 : decode cX6_countOf 117 = .ok (.getfield 23, 3) := by decide +kernel
theorem dX6_countOf_120 : decode cX6_countOf 120 = .ok (.getfield 136, 3) := by decide +kernel
theorem dX6_countOf_123 : decode cX6_countOf 123 = .ok (.ireturn, 1) := by decide +kernel
theorem dX6_countOf_124 : decode cX6_countOf 124 = .ok (.aload_n 0, 1) := by decide +kernel
theorem dX6_countOf_125 : decode cX6_countOf 125 = .ok (.getfield 23, 3) := by decide +kernel
theorem dX6_countOf_128 : decode cX6_countOf 128 = .ok (.invokevirtual 264, 3) := by decide +kernel
theorem dX6_countOf_131 : decode cX6_countOf 131 = .ok (.ireturn, 1) := by decide +kernel
theorem dX6_countOf_132 : decode cX6_countOf 132 = .ok (.aload_n 0, 1) := by decide +kernel
theorem dX6_countOf_133 : decode cX6_countOf 133 = .ok (.getfield 23, 3) := by decide +kernel
theorem dX6_countOf_136 : decode cX6_countOf 136 = .ok (.getfield 122, 3) := by decide +kernel
theorem dX6_countOf_139 : decode cX6_countOf 139 = .ok (.ireturn, 1) := by decide +kernel
theorem dX6_countOf_140 : decode cX6_countOf 140 = .ok (.aload_n 0, 1) := by decide +kernel
theorem dX6_countOf_141 : decode cX6_countOf 141 = .ok (.getfield 23, 3) := by decide +kernel
theorem dX6_countOf_144 : decode cX6_countOf 144 = .ok (.getfield 119, 3) := by decide +kernel
theorem dX6_countOf_147 : decode cX6_countOf 147 = .ok (.ireturn, 1) := by decide +kernel
